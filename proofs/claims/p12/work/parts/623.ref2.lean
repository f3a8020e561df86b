/-! The reference's chosen conditions, its ranks and markings. -/
def ChI (g : Nat → Int32) (L : List Nat) : Prop := ∀ k (h : k < L.length), g k = nI (L[k]'h) ∧ L[k]'h < 60
theorem ch_ex {L : List Nat} {n : Nat} (hn : L.length = n) (p : Nat → Prop) : (∃ k, k < n ∧ ∃ (h : k < L.length), p (L[k]'h)) ↔ ∃ c, c ∈ L ∧ p c := by
  constructor
  · rintro ⟨k, _, h, q⟩
    exact ⟨L[k], List.getElem_mem h, q⟩
  · rintro ⟨c, hc, q⟩
    obtain ⟨k, h, e⟩ := List.mem_iff_getElem.mp hc
    exact ⟨k, by omega, h, by rw [e]; exact q⟩
theorem B64.eqv {x y : Int64} {p q : Nat → Prop} (hx : B64 x p) (hy : B64 y q) : x = y ↔ ∀ i, p i ↔ q i := by
  constructor
  · rintro rfl i
    exact (hx i).symm.trans (hy i)
  · exact fun h => B64.ext hx (hy.congr fun i => (h i).symm)
noncomputable def sumC (X : Nat → Prop) (tr : Nat → Nat) (k n : Nat) : Nat → Nat
  | 0 => 0
  | u + 1 => sumC X tr k n u + cuX X tr k n u
theorem sumC_0 {X : Nat → Prop} {tr : Nat → Nat} {k u : Nat} : sumC X tr k 0 u = if k < u then 1 else 0 := by
  induction u with
  | zero => rfl
  | succ u ih =>
    show sumC X tr k 0 u + cuX X tr k 0 u = _
    rw [ih, cuX_0]
    by_cases h1 : k < u
    · rw [if_pos h1, if_neg (by omega), if_pos (by omega)]
    · by_cases h2 : u = k
      · rw [if_neg h1, if_pos h2, if_pos (by omega)]
      · rw [if_neg h1, if_neg h2, if_neg (by omega)]
theorem sumC_s {X : Nat → Prop} {tr : Nat → Nat} {k j u : Nat} : sumC X tr k (j + 1) u = sumC X tr k j u + (if bP (X j ∧ tr j < u) = true then 1 else 0) := by
  induction u with
  | zero =>
    show 0 = 0 + _
    rw [if_neg (fun q => absurd (bP_iff.mp q).2 (Nat.not_lt_zero _))]
  | succ u ih =>
    show sumC X tr k (j + 1) u + cuX X tr k (j + 1) u = sumC X tr k j u + cuX X tr k j u + _
    rw [ih]
    by_cases hX : X j
    · rcases Nat.lt_trichotomy (tr j) u with h | h | h
      · rw [if_pos (bP_iff.mpr ⟨hX, h⟩), cuX_n (fun q => by omega), if_pos (bP_iff.mpr ⟨hX, by omega⟩)]; omega
      · rw [if_neg (fun q => by have := (bP_iff.mp q).2; omega), cuX_y hX h, if_pos (bP_iff.mpr ⟨hX, by omega⟩)]; omega
      · rw [if_neg (fun q => by have := (bP_iff.mp q).2; omega), cuX_n (fun q => by omega), if_neg (fun q => by have := (bP_iff.mp q).2; omega)]; omega
    · rw [if_neg (fun q => hX (bP_iff.mp q).1), cuX_n (fun q => hX q.1), if_neg (fun q => hX (bP_iff.mp q).1)]; omega
theorem sumC_8 {X : Nat → Prop} {tr : Nat → Nat} {k n : Nat} (hk : k < 8) (ht : ∀ a, a < n → tr a < 8) : sumC X tr k n 8 = szX X n + 1 := by
  induction n with
  | zero => rw [sumC_0, if_pos hk]; unfold szX cnt; simp
  | succ n ih =>
    rw [sumC_s, ih (fun a ha => ht a (by omega))]
    unfold szX
    rw [cnt_succ]
    by_cases hX : X n
    · rw [if_pos (bP_iff.mpr ⟨hX, ht n (by omega)⟩), if_pos (bP_iff.mpr hX)]
    · rw [if_neg (fun q => hX (bP_iff.mp q).1), if_neg (fun q => hX (bP_iff.mp q))]
theorem sumC_le {X : Nat → Prop} {tr : Nat → Nat} {k n u : Nat} : sumC X tr k n u ≤ u * (n + 1) := by
  induction u with
  | zero => exact Nat.zero_le _
  | succ u ih =>
    show sumC X tr k n u + cuX X tr k n u ≤ _
    have := cuX_le (X := X) (tr := tr) (k := k) (n := n) (u := u)
    rw [Nat.succ_mul]; omega
theorem key40 {a b : Nat} (ha : a < 1024) (hb : b < 2 ^ 40) : (lN a <<< (Int32.toInt64 40 &&& 63)) ||| lN b = lN (a * 2 ^ 40 + b) := by
  apply Int64.toBitVec_inj.mp
  apply BitVec.eq_of_getLsbD_eq
  intro i hi
  rw [Int64.toBitVec_or, BitVec.getLsbD_or, lN_bits (by omega), lN_bits (by omega)]
  have e : (lN a <<< (Int32.toInt64 40 &&& 63)).toBitVec = (lN a).toBitVec <<< 40 := by
    rw [show (Int32.toInt64 40 &&& 63 : Int64) = 40 from by decide, Int64.toBitVec_shiftLeft]
    rfl
  rw [e, BitVec.getLsbD_shiftLeft, lN_bits (by omega), Nat.mul_comm a (2 ^ 40), Nat.testBit_two_pow_mul_add a (b := b) (i := 40) hb]
  by_cases h5 : i < 40
  · simp [h5, hi]
  · have : b.testBit i = false := Nat.testBit_lt_two_pow (Nat.lt_of_lt_of_le hb (Nat.pow_le_pow_right (by decide) (by omega)))
    simp [h5, hi, this]
theorem p40 : (32 : Nat) ^ 8 = 1099511627776 := by decide +kernel
theorem p40' : (2 : Nat) ^ 40 = 1099511627776 := by decide +kernel
theorem rk_fin {X : Nat → Prop} {tr : Nat → Nat} {k n : Nat} (hk : k < 8) (hn : n ≤ 30) (ht : ∀ a, a < n → tr a < 8) : (lN (1 + sumC X tr k n 8) <<< (Int32.toInt64 40 &&& 63)) ||| lN (rowF (cuX X tr k n) 8) = lN (keyX X tr k n (szX X n + 1) 8 + 2 ^ 40) := by
  have h1 := rowF_lt (cuX X tr k n) 8
  rw [p40] at h1
  have h2 : szX X n ≤ 30 := Nat.le_trans (cnt_le _ _) hn
  rw [key40 (by rw [sumC_8 hk ht]; omega) (by rw [p40']; exact h1), sumC_8 hk ht]
  refine congrArg lN ?_
  unfold keyX
  rw [p40]
  generalize rowF (cuX X tr k n) 8 = w
  omega
theorem row_st {g : Nat → Nat} {i : Nat} (hg : g i ≤ 31) : lN (rowF g i) * 32 + 31 - lN (g i) = lN (rowF g (i + 1)) := by
  have e1 : lN (rowF g i) * 32 = lN (rowF g i * 32) := lN_mul _ 32
  have e2 : lN (rowF g i * 32) + 31 = lN (rowF g i * 32 + 31) := lN_add _ 31
  rw [e1, e2, lN_sub (by omega)]
  congr 1
  show _ = rowF g i * 32 + (31 - g i)
  omega
/-- the marking of a sound set, one event more, told by words -/
theorem mrk_B {N : Net8} {P : Px} {X : Nat → Prop} {v a b : Int32} {i : Nat} (hO : PxOk N P) (hC : EvConf P.bh P.tkP P.mo X) (hX : X i) (hi : i < P.ne) (hct : P.ct i = false) (hv : B32 v (fun p => Mrk P.tkP P.mo P.pl X P.nc i p)) (ha : B32 a (fun p => p < 8 ∧ N.pr (P.tr i) p = true)) (hb : B32 b (fun p => p < 8 ∧ N.po (P.tr i) p = true)) :
    B32 ((v &&& (a ^^^ (-1))) ||| b) (fun p => Mrk P.tkP P.mo P.pl X P.nc (i + 1) p) := ((hv.and ha.not).or hb).congr fun p => by
  rw [hO.mstep hC hX hi hct p]
  have h8 : Mrk P.tkP P.mo P.pl X P.nc i p → p < 8 := fun ⟨c, hc, _, e⟩ => e ▸ hO.pl8 c hc
  constructor
  · rintro (⟨q1, -, q2⟩ | q)
    · exact Or.inl ⟨q1, q2⟩
    · exact Or.inr q
  · rintro (⟨q1, q2⟩ | q)
    · exact Or.inl ⟨q1, by have := h8 q1; omega, q2⟩
    · exact Or.inr q
theorem th_up {p : Nat → Prop} {i : Nat} (h : ∃ a, a < i ∧ p a) : ∃ a, a < i + 1 ∧ p a := by
  obtain ⟨a, ha, q⟩ := h
  exact ⟨a, by omega, q⟩
theorem th_no {p : Nat → Prop} {i : Nat} (h : ¬ ∃ a, a < i ∧ p a) (hi : ¬ p i) : ¬ ∃ a, a < i + 1 ∧ p a := fun ⟨a, ha, q⟩ => by
  by_cases e : a = i
  · subst e; exact hi q
  · exact h ⟨a, by omega, q⟩
