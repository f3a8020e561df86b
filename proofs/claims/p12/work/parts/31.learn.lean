/-! Search.learnFrom: the index that goes down to -1. -/
theorem pcount_le (x : Int64) : pcount x ≤ 64 := by rw [pcount_cnt]; exact cnt_le _ _
/-- kv is g - 1, as an int -/
def KvI (g : Nat) (kv : Int32) : Prop := (g = 0 ∧ kv = -1) ∨ (1 ≤ g ∧ g ≤ 38 ∧ kv = nI (g - 1))
theorem KvI.of {g : Nat} (h1 : 1 ≤ g) (h2 : g ≤ 38) : KvI g (nI (g - 1)) := Or.inr ⟨h1, h2, rfl⟩
theorem KvI.nat {g : Nat} {kv : Int32} (h : KvI g kv) (h0 : ¬ kv < 0) : ∃ j, j < 38 ∧ g = j + 1 ∧ kv = nI j := by
  rcases h with ⟨-, rfl⟩ | ⟨h1, h2, rfl⟩
  · exact absurd (by decide : (-1 : Int32) < 0) h0
  · exact ⟨g - 1, by omega, by omega, rfl⟩
theorem KvI.dec {j : Nat} (hj : j < 38) : ∃ v, nI j + Int32.ofInt (-1) = v ∧ KvI j v := by
  refine ⟨_, rfl, ?_⟩
  by_cases h : j = 0
  · subst h; exact Or.inl ⟨rfl, by decide⟩
  · exact Or.inr ⟨by omega, by omega, cv_dec (by omega)⟩
