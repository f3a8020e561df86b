/-! Invariants. -/
/-- a way's length -/
def WayI (w : Int32) : Prop := w = -1 ∨ ∃ n, n ≤ 31 ∧ w = nI n
theorem WayI.of {n : Nat} (h : n ≤ 31) : WayI (nI n) := Or.inr ⟨n, h, rfl⟩
theorem WayI.nat {w : Int32} (h : WayI w) (h0 : ¬ w < 0) : ∃ n, n ≤ 31 ∧ w = nI n := by
  rcases h with rfl | h
  · exact absurd (by decide) h0
  · exact h
theorem WayI.ix {w k : Int32} (h : WayI w) (h0 : ¬ k < 0) (h1 : ¬ w ≤ k) : ∃ j, j < 31 ∧ k = nI j := by
  rcases h with rfl | ⟨n, hn, rfl⟩
  · have e1 := fa_nlt (k := 0) (by decide) h0
    have e2 := fb_nle (k := -1) (by decide) h1
    omega
  · obtain ⟨j, hj, e⟩ := ix_of2 (by omega) h0 h1
    exact ⟨j, by omega, e⟩
