/-! The least member of a set. -/
theorem pN_ones : ∀ k, k < 64 → pN 8 (2 ^ k - 1) = k := by decide +kernel
theorem least_ex {x : Int64} (h : ¬ x = 0) : ∃ k, x.toBitVec.getLsbD k = true ∧ ∀ j, j < k → x.toBitVec.getLsbD j = false := by
  have hx : ∃ k, x.toBitVec.getLsbD k = true := by
    apply Classical.byContradiction
    intro hn
    apply h
    apply Int64.toBitVec_inj.mp
    apply BitVec.eq_of_getLsbD_eq
    intro i _
    have : ¬ x.toBitVec.getLsbD i = true := fun q => hn ⟨i, q⟩
    simpa using this
  obtain ⟨k, hk, hm⟩ := pk_least (fun k => x.toBitVec.getLsbD k = true) hx
  exact ⟨k, hk, fun j hj => by simpa using hm j hj⟩
theorem low_eq {x : Int64} {k : Nat} (hk : x.toBitVec.getLsbD k = true) (hm : ∀ j, j < k → x.toBitVec.getLsbD j = false) : x &&& -x = lN (2 ^ k) ∧ k < 64 := by
  have hk64 : k < 64 := by
    apply Nat.lt_of_not_le
    intro hge
    rw [BitVec.getLsbD_of_ge _ _ hge] at hk
    cases hk
  refine ⟨?_, hk64⟩
  apply Int64.toBitVec_inj.mp
  rw [Int64.toBitVec_and, Int64.toBitVec_neg]
  show _ = BitVec.ofNat 64 (2 ^ k)
  apply BitVec.eq_of_getLsbD_eq
  intro i hi
  rw [BitVec.getLsbD_and, BitVec.getLsbD_neg, BitVec.getLsbD_ofNat, Nat.testBit_two_pow]
  by_cases h1 : i < k
  · have : ¬ k = i := by omega
    simp [hm i h1, this]
  · by_cases h2 : i = k
    · subst h2
      have : ¬ ∃ j, j < i ∧ x.toBitVec.getLsbD j = true := by
        rintro ⟨j, hj, hq⟩
        rw [hm j hj] at hq
        cases hq
      simp [hk, hi, this]
    · have h3 : ∃ j, j < i ∧ x.toBitVec.getLsbD j = true := ⟨k, by omega, hk⟩
      have : ¬ k = i := by omega
      simp [h3, hi, this]
theorem least_eq {x : Int64} (h : ¬ x = 0) (hM : M38 x) : ∃ k, k < 38 ∧ x.toBitVec.getLsbD k = true ∧ pcount ((x &&& -x) - 1) = k := by
  obtain ⟨k, hk, hm⟩ := least_ex h
  obtain ⟨e, h64⟩ := low_eq hk hm
  have h38 : k < 38 := by
    apply Nat.lt_of_not_le
    intro hge
    rw [hM k hge] at hk
    cases hk
  refine ⟨k, h38, hk, ?_⟩
  have hp : 2 ^ k < 18446744073709551616 := Nat.lt_of_lt_of_le (Nat.pow_lt_pow_right (by decide) h64) (by decide)
  have hp1 : 1 ≤ 2 ^ k := Nat.pow_pos (by decide)
  have u1 : uN (lN (2 ^ k)) = 2 ^ k := Nat.mod_eq_of_lt hp
  have u2 : uN (1 : Int64) = 1 := by decide
  rw [e]
  unfold pcount
  rw [uN_sub (by rw [u1, u2]; exact hp1), u1, u2]
  exact pN_ones k h64
