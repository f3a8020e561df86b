/-! The rank's arithmetic. -/
noncomputable def bP (p : Prop) : Bool := @decide (p) (Classical.propDecidable _)
theorem bP_iff {p : Prop} : bP p = true ↔ p := by simp [bP]
noncomputable def cuX (X : Nat → Prop) (tr : Nat → Nat) (k n u : Nat) : Nat := (if u = k then 1 else 0) + cnt n (fun f => bP (X f ∧ tr f = u))
noncomputable def szX (X : Nat → Prop) (n : Nat) : Nat := cnt n (fun f => bP (X f))
theorem cuX_y {X : Nat → Prop} {tr : Nat → Nat} {k j u : Nat} (hX : X j) (ht : tr j = u) : cuX X tr k (j + 1) u = cuX X tr k j u + 1 := by
  unfold cuX
  rw [cnt_succ, if_pos (c := bP (X j ∧ tr j = u) = true) (bP_iff.mpr ⟨hX, ht⟩), Nat.add_assoc]
theorem cuX_n {X : Nat → Prop} {tr : Nat → Nat} {k j u : Nat} (h : ¬ (X j ∧ tr j = u)) : cuX X tr k (j + 1) u = cuX X tr k j u := by
  unfold cuX
  rw [cnt_succ, if_neg (c := bP (X j ∧ tr j = u) = true) (fun q => h (bP_iff.mp q)), Nat.add_zero]
theorem cuX_le {X : Nat → Prop} {tr : Nat → Nat} {k n u : Nat} : cuX X tr k n u ≤ n + 1 := by
  unfold cuX
  have := cnt_le n (fun f => bP (X f ∧ tr f = u))
  split <;> omega
theorem cuX_0 {X : Nat → Prop} {tr : Nat → Nat} {k u : Nat} : cuX X tr k 0 u = if u = k then 1 else 0 := by
  unfold cuX cnt; simp
noncomputable def keyX (X : Nat → Prop) (tr : Nat → Nat) (k n s i : Nat) : Nat := s * 32 ^ i + rowF (cuX X tr k n) i
theorem keyX_s {X : Nat → Prop} {tr : Nat → Nat} {k n s i : Nat} : keyX X tr k n s (i + 1) = keyX X tr k n s i * 32 + (31 - cuX X tr k n i) := by
  unfold keyX
  show s * 32 ^ (i + 1) + (rowF _ i * 32 + (31 - cuX X tr k n i)) = _
  rw [Nat.pow_succ, Nat.add_mul, Nat.mul_assoc]
  omega
theorem rowF_lt (g : Nat → Nat) (i : Nat) : rowF g i < 32 ^ i := by
  induction i with
  | zero => exact Nat.one_pos
  | succ i ih =>
    show rowF g i * 32 + (31 - g i) < _
    rw [Nat.pow_succ]; omega
theorem keyX_lt {X : Nat → Prop} {tr : Nat → Nat} {k n s i : Nat} (hs : s ≤ 33) (hi : i ≤ 8) : keyX X tr k n s i < 34 * 32 ^ 8 := by
  have h1 := rowF_lt (cuX X tr k n) i
  have h2 : 32 ^ i ≤ 32 ^ 8 := Nat.pow_le_pow_right (by decide) hi
  have h3 : s * 32 ^ i ≤ 33 * 32 ^ 8 := Nat.mul_le_mul hs h2
  unfold keyX
  omega
theorem lN_inj {a b : Nat} (ha : a < 2 ^ 63) (hb : b < 2 ^ 63) (h : lN a = lN b) : a = b := by
  have h1 : (lN a).toBitVec = (lN b).toBitVec := congrArg _ h
  have h2 : BitVec.ofNat 64 a = BitVec.ofNat 64 b := h1
  have h3 := congrArg BitVec.toNat h2
  rw [BitVec.toNat_ofNat, BitVec.toNat_ofNat, Nat.mod_eq_of_lt (by omega), Nat.mod_eq_of_lt (by omega)] at h3
  exact h3
theorem key_sh {n m : Nat} (hn : n < 34 * 32 ^ 8) (hm : m < 32) : (lN n <<< (Int32.toInt64 5 &&& 63)) ||| Int32.toInt64 (nI m) = lN (n * 32 + m) := by
  apply Int64.toBitVec_inj.mp
  apply BitVec.eq_of_getLsbD_eq
  intro i hi
  rw [Int64.toBitVec_or, BitVec.getLsbD_or, nI_l (by omega), lN_bits (by omega), lN_bits (by omega)]
  have e : (lN n <<< (Int32.toInt64 5 &&& 63)).toBitVec = (lN n).toBitVec <<< 5 := by
    rw [show (Int32.toInt64 5 &&& 63 : Int64) = 5 from by decide, Int64.toBitVec_shiftLeft]
    rfl
  rw [e, BitVec.getLsbD_shiftLeft, lN_bits (by omega), Nat.mul_comm n 32, show 32 * n + m = 2 ^ 5 * n + m from rfl, Nat.testBit_two_pow_mul_add n (b := m) (i := 5) (by simpa using hm)]
  by_cases h5 : i < 5
  · simp [h5, hi]
  · have : m.testBit i = false := Nat.testBit_lt_two_pow (Nat.lt_of_lt_of_le hm (show 32 ≤ 2 ^ i from Nat.pow_le_pow_right (n := 2) (by decide) (by omega : 5 ≤ i)))
    simp [h5, hi, this]
theorem pc32_X {x : Int32} {X : Nat → Prop} {n : Nat} (h : B32 x X) (hX : ∀ a, X a → a < n) (hn : n ≤ 32) : pc32 x = szX X n := by
  rw [pc32_cnt]
  unfold szX
  have e := cnt_off n (32 - n) (fun i => x.toBitVec.getLsbD i)
  rw [show n + (32 - n) = 32 from by omega] at e
  rw [e]
  have z : cnt (32 - n) (fun i => x.toBitVec.getLsbD (n + i)) = 0 := by
    have : cnt (32 - n) (fun i => x.toBitVec.getLsbD (n + i)) = cnt (32 - n) (fun _ => false) := cnt_congr fun w _ => by
      cases q : x.toBitVec.getLsbD (n + w) with
      | false => rfl
      | true => have := hX _ ((h _).mp q); omega
    rw [this]
    unfold cnt
    simp
  rw [z, Nat.add_zero]
  refine cnt_congr fun w _ => ?_
  apply Bool.eq_iff_iff.mpr
  rw [h w, bP_iff]
theorem rk_0 {x : Int32} {X : Nat → Prop} {tr : Nat → Nat} {k n : Nat} (h : pc32 x = szX X n) (h2 : pc32 x ≤ 32) : Int32.toInt64 (nI (pc32 x + 1)) = lN (keyX X tr k n (szX X n + 1) 0) := by
  rw [nI_l (by omega), h]
  unfold keyX
  congr 1
  show _ = (szX X n + 1) * 1 + 0
  omega
