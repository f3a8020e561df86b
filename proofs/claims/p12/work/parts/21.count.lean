/-! Counting. -/
def cnt (n : Nat) (p : Nat → Bool) : Nat := ((List.range n).filter p).length
theorem cnt_succ (n : Nat) (p : Nat → Bool) : cnt (n + 1) p = cnt n p + (if p n = true then 1 else 0) := by
  unfold cnt
  rw [List.range_succ, List.filter_append, List.length_append]
  congr 1
  by_cases h : p n = true <;> simp [List.filter, h]
theorem cnt_le (n : Nat) (p : Nat → Bool) : cnt n p ≤ n := by
  induction n with
  | zero => simp [cnt]
  | succ n ih => rw [cnt_succ]; split <;> omega
theorem cnt_congr {n : Nat} {p q : Nat → Bool} (h : ∀ w, w < n → p w = q w) : cnt n p = cnt n q := by
  induction n with
  | zero => simp [cnt]
  | succ n ih => rw [cnt_succ, cnt_succ, ih (fun w hw => h w (by omega)), h n (by omega)]
theorem cnt_lt {n v : Nat} {p : Nat → Bool} (hv : v < n) (hp : p v = false) : cnt n p < n := by
  induction n with
  | zero => omega
  | succ n ih =>
    rw [cnt_succ]
    by_cases e : v = n
    · subst e
      have := cnt_le v p
      simp [hp]
      omega
    · have := ih (by omega)
      split <;> omega
theorem cnt_upd {n v : Nat} {p q : Nat → Bool} (hv : v < n) (hp : p v = false) (hq : q v = true) (h : ∀ w, w < n → w ≠ v → q w = p w) : cnt n q = cnt n p + 1 := by
  induction n with
  | zero => omega
  | succ n ih =>
    rw [cnt_succ, cnt_succ]
    by_cases e : v = n
    · subst e
      rw [cnt_congr (p := q) (q := p) (fun w hw => h w (by omega) (by omega))]
      simp [hp, hq]
    · rw [ih (by omega) (fun w hw hne => h w (by omega) hne), h n (by omega) (fun q => e q.symm)]
      omega
theorem cnt_add {n : Nat} {p q r : Nat → Bool} (h : ∀ w, w < n → (r w = true ↔ (p w = true ∨ q w = true)) ∧ ¬ (p w = true ∧ q w = true)) : cnt n r = cnt n p + cnt n q := by
  induction n with
  | zero => simp [cnt]
  | succ n ih =>
    rw [cnt_succ, cnt_succ, cnt_succ, ih (fun w hw => h w (by omega))]
    obtain ⟨h1, h2⟩ := h n (by omega)
    cases hp : p n <;> cases hq : q n <;> cases hr : r n <;> simp [hp, hq, hr] at h1 h2 ⊢ <;> omega
theorem cnt_off (a b : Nat) (p : Nat → Bool) : cnt (a + b) p = cnt a p + cnt b (fun i => p (a + i)) := by
  induction b with
  | zero => simp [cnt]
  | succ b ih => rw [← Nat.add_assoc, cnt_succ, cnt_succ, ih]; omega
theorem pN_cnt : ∀ (j n : Nat), pN j n = cnt (8 * j) (fun i => n.testBit i)
  | 0, n => by simp [pN, cnt]
  | j + 1, n => by
    have e : 8 * (j + 1) = 8 + 8 * j := by omega
    rw [e, cnt_off]
    show pN j (n / 2 ^ 8) + pb (n % 2 ^ 8) = _
    rw [pN_cnt j, Nat.add_comm]
    congr 1
    · show cnt 8 (fun i => (n % 2 ^ 8).testBit i) = cnt 8 (fun i => n.testBit i)
      apply cnt_congr
      intro w hw
      rw [Nat.testBit_mod_two_pow]
      simp [hw]
    · apply cnt_congr
      intro w hw
      show (n / 2 ^ 8).testBit w = n.testBit (8 + w)
      rw [Nat.testBit_div_two_pow, Nat.add_comm]
theorem pcount_cnt (x : Int64) : pcount x = cnt 64 (fun i => x.toBitVec.getLsbD i) := pN_cnt 8 (uN x)
/-- a set below 38, counted there -/
theorem pcount_38 {x : Int64} {p : Nat → Bool} (h : ∀ i, x.toBitVec.getLsbD i = true ↔ (i < 38 ∧ p i = true)) : pcount x = cnt 38 p := by
  rw [pcount_cnt]
  have h0 := cnt_off 38 26 (fun i => x.toBitVec.getLsbD i)
  refine Eq.trans h0 ?_
  have h1 : cnt 38 (fun i => x.toBitVec.getLsbD i) = cnt 38 p := cnt_congr fun w hw => by
    have := h w
    cases hp : p w <;> cases hx : x.toBitVec.getLsbD w <;> simp [hp, hx, hw] at this ⊢
  have h2 : cnt 26 (fun i => x.toBitVec.getLsbD (38 + i)) = cnt 26 (fun _ => false) := cnt_congr fun w hw => by
    cases hx : x.toBitVec.getLsbD (38 + w) with
    | false => rfl
    | true => exact absurd ((h (38 + w)).mp hx).1 (by omega)
  have h3 : cnt 26 (fun _ => false) = 0 := by decide
  rw [h1, h2, h3]
  rfl
