/-! Invariants. -/
/-- a way's length -/
def WayI (w : Int32) : Prop := w = -1 ∨ ∃ n, n ≤ 31 ∧ w = nI n
theorem WayI.of {n : Nat} (h : n ≤ 31) : WayI (nI n) := Or.inr ⟨n, h, rfl⟩
theorem WayI.nat {w : Int32} (h : WayI w) (h0 : ¬ w < 0) : ∃ n, n ≤ 31 ∧ w = nI n := by
  rcases h with rfl | h
  · exact absurd (by decide) h0
  · exact h
theorem WayI.ix {w k : Int32} (h : WayI w) (h0 : ¬ k < 0) (h1 : ¬ w ≤ k) : ∃ j, j < 31 ∧ k = nI j := by
  rcases h with rfl | ⟨n, hn, rfl⟩
  · have e1 := fa_nlt (k := 0) (by decide) h0
    have e2 := fb_nle (k := -1) (by decide) h1
    omega
  · obtain ⟨j, hj, e⟩ := ix_of2 (by omega) h0 h1
    exact ⟨j, by omega, e⟩
theorem AllLt.move {f : Nat → Int32} {n n' b i k : Nat} (h : AllLt f n b) (hk : k < n) (hn : n' ≤ n) : AllLt (upd f i (f k)) n' b := fun j hj => by
  by_cases e : j = i
  · subst e
    obtain ⟨q, h1, h2⟩ := h k hk
    exact ⟨q, h1, by simp [upd, h2]⟩
  · obtain ⟨q, h1, h2⟩ := h j (by omega)
    exact ⟨q, h1, by simp [upd, e, h2]⟩
def tooM (z : Nat) : Int32 := if 200 < z then 1 else 0
theorem tooM_0 {z : Nat} (h : ¬ ¬ tooM z = 0) : z ≤ 200 := by
  unfold tooM at h
  split at h
  · exact absurd (by decide) h
  · omega
theorem tooM_0' {z : Nat} (h : tooM z = 0) : z ≤ 200 := tooM_0 (fun q => q h)
