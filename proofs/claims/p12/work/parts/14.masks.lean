/-! Sets of variables: bits below 38. -/
def M38 (x : Int64) : Prop := ∀ i, 38 ≤ i → x.toBitVec.getLsbD i = false
theorem M38.zero : M38 0 := fun i _ => by simp
theorem M38.or {x y : Int64} (hx : M38 x) (hy : M38 y) : M38 (x ||| y) := fun i hi => by rw [Int64.toBitVec_or, BitVec.getLsbD_or, hx i hi, hy i hi]; rfl
theorem M38.andl {x y : Int64} (hx : M38 x) : M38 (x &&& y) := fun i hi => by rw [Int64.toBitVec_and, BitVec.getLsbD_and, hx i hi]; rfl
theorem M38.andr {x y : Int64} (hy : M38 y) : M38 (x &&& y) := fun i hi => by rw [Int64.toBitVec_and, BitVec.getLsbD_and, hy i hi]; simp
theorem M38.ofNat {n : Nat} (h : n < 2 ^ 38) : M38 (lN n) := fun i hi => by
  show (BitVec.ofNat 64 n).getLsbD i = false
  rw [BitVec.getLsbD_ofNat]
  have : n.testBit i = false := Nat.testBit_lt_two_pow (Nat.lt_of_lt_of_le h (Nat.pow_le_pow_right (by decide) hi))
  simp [this]
theorem bit_eq : ∀ k, k < 38 → (1 : Int64) <<< (Int32.toInt64 (nI k) &&& 63) = lN (2 ^ k) := by decide +kernel
theorem M38.bit {k : Nat} (h : k < 38) : M38 (1 <<< (Int32.toInt64 (nI k) &&& 63)) := by
  rw [bit_eq k h]
  exact M38.ofNat (Nat.pow_lt_pow_right (by decide) h)
theorem M38.ofI {n : Nat} (h : n < 2 ^ 31) : M38 (Int32.toInt64 (nI n)) := by
  rw [nI_l h]
  exact M38.ofNat (by omega)
theorem and_nI (x : Int32) {n : Nat} (h : n < 2 ^ 31) : ∃ m, m < 2 ^ 31 ∧ x &&& nI n = nI m := by
  refine ⟨(x &&& nI n).toBitVec.toNat, ?_, ?_⟩
  · rw [Int32.toBitVec_and, BitVec.toNat_and]
    have : (nI n).toBitVec.toNat = n := pk_tn (by omega)
    rw [this]
    exact Nat.lt_of_le_of_lt Nat.and_le_right h
  · apply Int32.toBitVec_inj.mp
    apply BitVec.eq_of_toNat_eq
    have h2 : (x &&& nI n).toBitVec.toNat < 2 ^ 32 := (x &&& nI n).toBitVec.isLt
    exact (pk_tn h2).symm
theorem M38.andI {x : Int32} {n : Nat} (h : n < 2 ^ 31) : M38 (Int32.toInt64 (x &&& nI n)) := by
  obtain ⟨m, hm, e⟩ := and_nI x h
  rw [e]
  exact M38.ofI hm
theorem pre_eq : ∀ n, n < 256 → Int32.toInt64 (nI n) <<< (Int32.toInt64 30 &&& 63) = lN (n * 2 ^ 30) := by decide +kernel
theorem M38.pre {n : Nat} (h : n < 256) : M38 (Int32.toInt64 (nI n) <<< (Int32.toInt64 30 &&& 63)) := by
  rw [pre_eq n h]
  exact M38.ofNat (by omega)
theorem M38.all : M38 273804165120 := M38.ofNat (n := 273804165120) (by decide)
theorem us_c : ∀ k, k < 31 → ((1 : Int32) <<< (nI k &&& 31)) - 1 = nI (2 ^ k - 1) := by decide +kernel
theorem and_nI' (x : Int32) {n : Nat} (h : n < 2 ^ 31) : ∃ m, m ≤ n ∧ nI n &&& x = nI m := by
  refine ⟨(nI n &&& x).toBitVec.toNat, ?_, ?_⟩
  · rw [Int32.toBitVec_and, BitVec.toNat_and]
    have : (nI n).toBitVec.toNat = n := pk_tn (by omega)
    rw [this]
    exact Nat.and_le_left
  · apply Int32.toBitVec_inj.mp
    apply BitVec.eq_of_toNat_eq
    have h2 : (nI n &&& x).toBitVec.toNat < 2 ^ 32 := (nI n &&& x).toBitVec.isLt
    exact (pk_tn h2).symm
theorem us_lt {k : Nat} (x : Int32) (h : k ≤ 30) : ∃ m, m < 2 ^ 30 ∧ (((1 : Int32) <<< (nI k &&& 31)) - 1) &&& x = nI m := by
  rw [us_c k (by omega)]
  have hp : 2 ^ k ≤ 2 ^ 30 := Nat.pow_le_pow_right (by decide) h
  have h0 : 0 < 2 ^ k := Nat.pow_pos (by decide)
  obtain ⟨m, hm, e⟩ := and_nI' x (n := 2 ^ k - 1) (by omega)
  exact ⟨m, by omega, e⟩
/-- the first n are such sets -/
def AllM (f : Nat → Int64) (n : Nat) : Prop := ∀ j, j < n → M38 (f j)
theorem AllM.zero {f : Nat → Int64} : AllM f 0 := fun j hj => absurd hj (Nat.not_lt_zero j)
theorem AllM.push {f : Nat → Int64} {n : Nat} {x : Int64} (h : AllM f n) (hx : M38 x) : AllM (vp_updL f n x) (n + 1) := fun j hj => by
  by_cases e : j = n
  · subst e; simpa [vp_updL] using hx
  · simpa [vp_updL, e] using h j (by omega)
theorem AllM.move {f : Nat → Int64} {n n' i k : Nat} (h : AllM f n) (hk : k < n) (hn : n' ≤ n) : AllM (vp_updL f i (f k)) n' := fun j hj => by
  by_cases e : j = i
  · subst e; simpa [vp_updL] using h k hk
  · simpa [vp_updL, e] using h j (by omega)
theorem AllM.mono {f : Nat → Int64} {n n' : Nat} (h : AllM f n) (hn : n' ≤ n) : AllM f n' := fun j hj => h j (by omega)
theorem AllM.put {f : Nat → Int64} {n i : Nat} {x : Int64} (h : AllM f n) (hx : M38 x) : AllM (vp_updL f i x) n := fun j hj => by
  by_cases e : j = i
  · subst e; simpa [vp_updL] using hx
  · simpa [vp_updL, e] using h j hj
