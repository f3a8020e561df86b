/-! Words as sets of small numbers. -/
def B64 (x : Int64) (p : Nat → Prop) : Prop := ∀ i, x.toBitVec.getLsbD i = true ↔ p i
def B32 (x : Int32) (p : Nat → Prop) : Prop := ∀ i, x.toBitVec.getLsbD i = true ↔ p i
section BW
variable {x y : Int64} {p q : Nat → Prop}
theorem B64.zero : B64 0 (fun _ => False) := fun i => by simp
theorem B64.congr (h : B64 x p) (e : ∀ i, p i ↔ q i) : B64 x q := fun i => (h i).trans (e i)
theorem B64.or (h : B64 x p) (k : B64 y q) : B64 (x ||| y) (fun i => p i ∨ q i) := fun i => by
  rw [Int64.toBitVec_or, BitVec.getLsbD_or, Bool.or_eq_true, h i, k i]
theorem B64.and (h : B64 x p) (k : B64 y q) : B64 (x &&& y) (fun i => p i ∧ q i) := fun i => by
  rw [Int64.toBitVec_and, BitVec.getLsbD_and, Bool.and_eq_true, h i, k i]
theorem B64.not (h : B64 x p) : B64 (x ^^^ (-1)) (fun i => i < 64 ∧ ¬ p i) := fun i => by
  rw [neg_bit, Bool.and_eq_true, decide_eq_true_eq, Bool.not_eq_true', ← Bool.not_eq_true, h i]
theorem B64.ext (h : B64 x p) (k : B64 y p) : x = y := by
  apply Int64.toBitVec_inj.mp
  apply BitVec.eq_of_getLsbD_eq
  intro i _
  exact Bool.eq_iff_iff.mpr ((h i).trans (k i).symm)
theorem bit_eq62 : ∀ k, k < 62 → (1 : Int64) <<< (Int32.toInt64 (nI k) &&& 63) = lN (2 ^ k) := by decide +kernel
theorem lN_bits {n : Nat} (h : n < 2 ^ 63) (i : Nat) : (lN n).toBitVec.getLsbD i = n.testBit i := by
  show (BitVec.ofNat 64 n).getLsbD i = _
  rw [BitVec.getLsbD_ofNat]
  by_cases hi : i < 64
  · simp [hi]
  · have : n.testBit i = false := Nat.testBit_lt_two_pow (Nat.lt_of_lt_of_le h (Nat.pow_le_pow_right (by decide) (by omega)))
    simp [this]
theorem B64.bit {k : Nat} (hk : k < 62) : B64 (1 <<< (Int32.toInt64 (nI k) &&& 63)) (fun i => i = k) := fun i => by
  rw [bit_eq62 k hk, lN_bits (Nat.pow_lt_pow_right (by decide) (by omega)), Nat.testBit_two_pow, decide_eq_true_eq]
  exact eq_comm
theorem ones_eq62 : ∀ k, k < 62 → ((1 : Int64) <<< (Int32.toInt64 (nI k) &&& 63)) - 1 = lN (2 ^ k - 1) := by decide +kernel
theorem B64.ones {k : Nat} (hk : k < 62) : B64 ((1 <<< (Int32.toInt64 (nI k) &&& 63)) - 1) (fun i => i < k) := fun i => by
  have h1 : 2 ^ k < 2 ^ 63 := Nat.pow_lt_pow_right (by decide) (by omega)
  rw [ones_eq62 k hk, lN_bits (by omega), Nat.testBit_two_pow_sub_one, decide_eq_true_eq]
theorem B64.has {k : Nat} (h : B64 x p) : hasv x k = 0 ↔ ¬ p k := by
  rw [← h k]
  unfold hasv
  by_cases e : x.toBitVec.getLsbD k = true
  · rw [if_pos e]; exact ⟨fun q => absurd q (by decide), fun q => absurd e q⟩
  · rw [if_neg e]; exact ⟨fun _ => e, fun _ => rfl⟩
theorem B64.nz (h : B64 x p) : x = 0 ↔ ∀ i, ¬ p i := by
  constructor
  · rintro rfl i q
    have := (h i).mpr q
    simp at this
  · intro q
    exact B64.ext (p := fun _ => False) (h.congr fun i => ⟨fun r => q i r, False.elim⟩) B64.zero
end BW
section BI
variable {x y : Int32} {p q : Nat → Prop}
theorem B32.zero : B32 0 (fun _ => False) := fun i => by simp
theorem B32.congr (h : B32 x p) (e : ∀ i, p i ↔ q i) : B32 x q := fun i => (h i).trans (e i)
theorem B32.or (h : B32 x p) (k : B32 y q) : B32 (x ||| y) (fun i => p i ∨ q i) := fun i => by
  rw [Int32.toBitVec_or, BitVec.getLsbD_or, Bool.or_eq_true, h i, k i]
theorem B32.and (h : B32 x p) (k : B32 y q) : B32 (x &&& y) (fun i => p i ∧ q i) := fun i => by
  rw [Int32.toBitVec_and, BitVec.getLsbD_and, Bool.and_eq_true, h i, k i]
theorem B32.ext (h : B32 x p) (k : B32 y p) : x = y := by
  apply Int32.toBitVec_inj.mp
  apply BitVec.eq_of_getLsbD_eq
  intro i _
  exact Bool.eq_iff_iff.mpr ((h i).trans (k i).symm)
theorem B32.nz (h : B32 x p) : x = 0 ↔ ∀ i, ¬ p i := by
  constructor
  · rintro rfl i q
    have := (h i).mpr q
    simp at this
  · intro q
    exact B32.ext (p := fun _ => False) (h.congr fun i => ⟨fun r => q i r, False.elim⟩) B32.zero
theorem nI_bits {n : Nat} (h : n < 2 ^ 31) (i : Nat) : (nI n).toBitVec.getLsbD i = n.testBit i := by
  show (BitVec.ofNat 32 n).getLsbD i = _
  rw [BitVec.getLsbD_ofNat]
  by_cases hi : i < 32
  · simp [hi]
  · have : n.testBit i = false := Nat.testBit_lt_two_pow (Nat.lt_of_lt_of_le h (Nat.pow_le_pow_right (by decide) (by omega)))
    simp [this]
theorem bit_eq31 : ∀ k, k < 31 → (1 : Int32) <<< (nI k &&& 31) = nI (2 ^ k) := by decide +kernel
theorem B32.bit {k : Nat} (hk : k < 31) : B32 (1 <<< (nI k &&& 31)) (fun i => i = k) := fun i => by
  rw [bit_eq31 k hk, nI_bits (Nat.pow_lt_pow_right (by decide) hk), Nat.testBit_two_pow, decide_eq_true_eq]
  exact eq_comm
theorem B32.not (h : B32 x p) : B32 (x ^^^ (-1)) (fun i => i < 32 ∧ ¬ p i) := fun i => by
  rw [Int32.toBitVec_xor, BitVec.getLsbD_xor, show (-1 : Int32).toBitVec = BitVec.allOnes 32 from by decide, BitVec.getLsbD_allOnes]
  by_cases hi : i < 32
  · simp only [hi, decide_true, Bool.xor_true, Bool.not_eq_true', true_and]
    rw [← Bool.not_eq_true, h i]
  · have : x.toBitVec.getLsbD i = false := BitVec.getLsbD_of_ge _ _ (by omega)
    simp [hi, this]
/-- small sets, as longs -/
theorem B32.long (h : B32 x p) (hp : ∀ i, p i → i < 31) : B64 (Int32.toInt64 x) p := fun i => by
  have h31 : x.toBitVec.getLsbD 31 = false := by
    cases e : x.toBitVec.getLsbD 31 with
    | false => rfl
    | true => have := hp 31 ((h 31).mp e); omega
  have hm : x.toBitVec.msb = false := by rw [BitVec.msb_eq_getLsbD_last]; exact h31
  rw [Int32.toBitVec_toInt64, BitVec.getLsbD_signExtend, hm, ← h i]
  by_cases hi : i < 32
  · simp [hi]; omega
  · have : x.toBitVec.getLsbD i = false := BitVec.getLsbD_of_ge _ _ (by omega)
    simp [hi, this]
theorem B32.has {k : Nat} (h : B32 x p) (hp : ∀ i, p i → i < 31) : hasv (Int32.toInt64 x) k = 0 ↔ ¬ p k := (h.long hp).has
theorem B32.ofNat {n : Nat} (h : n < 2 ^ 31) : B32 (nI n) (fun i => n.testBit i = true) := fun i => by rw [nI_bits h i]
end BI
