/-! There are not too many choices to count. -/
section BND
variable {pl : Nat → Nat} {co : Nat → Nat → Bool} {nc : Nat}
def npl (pl : Nat → Nat) (nc p : Nat) : Nat := cnt nc (fun c => pl c == p)
def prodL (f : Nat → Nat) : List Nat → Nat
  | [] => 1
  | p :: ps => f p * prodL f ps
def sumL (f : Nat → Nat) : List Nat → Nat
  | [] => 0
  | p :: ps => f p + sumL f ps
theorem fm_len {α β : Type} {l : List α} {f : α → List β} {m : Nat} (h : ∀ x ∈ l, (f x).length ≤ m) : (l.flatMap f).length ≤ l.length * m := by
  induction l with
  | nil => simp
  | cons x l ih =>
    rw [List.flatMap_cons, List.length_append, List.length_cons, Nat.succ_mul]
    have h1 := h x List.mem_cons_self
    have h2 := ih (fun y hy => h y (List.mem_cons_of_mem _ hy))
    omega
theorem filt_le (n : Nat) (a b : Nat → Bool) (h : ∀ c, a c = true → b c = true) : ((List.range n).filter a).length ≤ ((List.range n).filter b).length := by
  induction n with
  | zero => exact Nat.le_refl _
  | succ n ih =>
    rw [List.range_succ, List.filter_append, List.filter_append, List.length_append, List.length_append]
    refine Nat.add_le_add ih ?_
    by_cases q : a n = true
    · rw [List.filter_cons_of_pos q, List.filter_cons_of_pos (h n q)]; exact Nat.le_refl _
    · rw [List.filter_cons_of_neg q]; exact Nat.zero_le _
theorem chP_len (ps : List Nat) (op : Nat → Bool) : (chP pl co nc ps op).length ≤ prodL (npl pl nc) ps := by
  induction ps generalizing op with
  | nil => exact Nat.le_refl 1
  | cons p ps ih =>
    show (((List.range nc).filter (fun c => op c && (pl c == p))).flatMap _).length ≤ npl pl nc p * prodL (npl pl nc) ps
    refine Nat.le_trans (fm_len (m := prodL (npl pl nc) ps) (fun c _ => by rw [List.length_map]; exact ih _)) ?_
    exact Nat.mul_le_mul_right _ (filt_le nc _ _ (fun c q => by simp only [Bool.and_eq_true] at q; exact q.2))
theorem sum_one {ps : List Nat} (hn : ps.Nodup) (q : Nat) : sumL (fun p => if q = p then 1 else 0) ps ≤ 1 := by
  induction ps with
  | nil => exact Nat.zero_le _
  | cons p ps ih =>
    have h1 := List.nodup_cons.mp hn
    show (if q = p then 1 else 0) + sumL _ ps ≤ 1
    by_cases e : q = p
    · subst e
      rw [if_pos rfl]
      have : sumL (fun p => if q = p then 1 else 0) ps = 0 := by
        clear ih hn
        have h2 := h1.1
        clear h1
        induction ps with
        | nil => rfl
        | cons z ps ih =>
          show (if q = z then 1 else 0) + sumL _ ps = 0
          rw [if_neg (show ¬ q = z from fun e => h2 (by rw [e]; exact List.mem_cons_self)), ih (fun r => h2 (List.mem_cons_of_mem _ r))]
      omega
    · rw [if_neg e]
      have := ih h1.2
      omega
theorem sum_add (f g : Nat → Nat) (ps : List Nat) : sumL (fun p => f p + g p) ps = sumL f ps + sumL g ps := by
  induction ps with
  | nil => rfl
  | cons p ps ih =>
    show f p + g p + sumL _ ps = f p + sumL f ps + (g p + sumL g ps)
    rw [ih]; omega
theorem sum_npl {ps : List Nat} (hn : ps.Nodup) : sumL (npl pl nc) ps ≤ nc := by
  induction nc with
  | zero =>
    have : ∀ ps, sumL (npl pl 0) ps = 0 := fun ps => by
      induction ps with
      | nil => rfl
      | cons p ps ih => show npl pl 0 p + sumL _ ps = 0; rw [ih]; rfl
    rw [this]; exact Nat.le_refl _
  | succ n ih =>
    have e : npl pl (n + 1) = fun p => npl pl n p + (if pl n = p then 1 else 0) := by
      funext p
      unfold npl
      rw [cnt_succ]
      congr 1
      by_cases q : pl n = p
      · rw [if_pos q, if_pos (by simpa using q)]
      · rw [if_neg q, if_neg (by simpa using q)]
    rw [e, sum_add]
    have := sum_one hn (pl n)
    omega
theorem w1 : ∀ n, n < 61 → n * 8 ^ n * 9 ^ 8 ≤ 9 ^ n * 8 ^ 9 := by decide +kernel
theorem w2 : ∀ m, m < 9 → ∀ s, s < 61 → 9 ^ s * 8 ^ (9 * m) ≤ 2 ^ 24 * (8 ^ s * 9 ^ (8 * m)) := by decide +kernel
theorem prod_w (f : Nat → Nat) (ps : List Nat) (h : ∀ p ∈ ps, f p < 61) : prodL f ps * (8 ^ sumL f ps * 9 ^ (8 * ps.length)) ≤ 9 ^ sumL f ps * 8 ^ (9 * ps.length) := by
  induction ps with
  | nil => exact Nat.le_refl _
  | cons p ps ih =>
    have h1 := w1 (f p) (h p List.mem_cons_self)
    have h2 := ih (fun q hq => h q (List.mem_cons_of_mem _ hq))
    have := Nat.mul_le_mul h1 h2
    show f p * prodL f ps * (8 ^ (f p + sumL f ps) * 9 ^ (8 * (ps.length + 1))) ≤ 9 ^ (f p + sumL f ps) * 8 ^ (9 * (ps.length + 1))
    have e1 : f p * prodL f ps * (8 ^ (f p + sumL f ps) * 9 ^ (8 * (ps.length + 1))) = f p * 8 ^ f p * 9 ^ 8 * (prodL f ps * (8 ^ sumL f ps * 9 ^ (8 * ps.length))) := by
      rw [Nat.pow_add, Nat.mul_succ, Nat.pow_add]
      simp only [Nat.mul_comm, Nat.mul_left_comm, Nat.mul_assoc]
    have e2 : 9 ^ (f p + sumL f ps) * 8 ^ (9 * (ps.length + 1)) = 9 ^ f p * 8 ^ 9 * (9 ^ sumL f ps * 8 ^ (9 * ps.length)) := by
      rw [Nat.pow_add, Nat.mul_succ, Nat.pow_add]
      simp only [Nat.mul_comm, Nat.mul_left_comm, Nat.mul_assoc]
    rw [e1, e2]
    exact this
theorem elt_le {f : Nat → Nat} {ps : List Nat} {p : Nat} (h : p ∈ ps) : f p ≤ sumL f ps := by
  induction ps with
  | nil => cases h
  | cons q ps ih =>
    show f p ≤ f q + sumL f ps
    rcases List.mem_cons.mp h with e | h
    · subst e; omega
    · have := ih h; omega
theorem prod_le {ps : List Nat} (hn : ps.Nodup) (hl : ps.length ≤ 8) (h60 : nc ≤ 60) : prodL (npl pl nc) ps ≤ 2 ^ 24 := by
  have hs := sum_npl (pl := pl) (nc := nc) hn
  have h1 := prod_w (npl pl nc) ps (fun p hp => by have := elt_le (f := npl pl nc) hp; omega)
  have h2 := w2 ps.length (by omega) (sumL (npl pl nc) ps) (by omega)
  exact Nat.le_of_mul_le_mul_right (Nat.le_trans h1 h2) (Nat.mul_pos (Nat.pow_pos (by decide)) (Nat.pow_pos (by decide)))
end BND
theorem plc_len (f : Nat → Bool) : (plc f).length ≤ 8 := by
  have := List.length_filter_le f (List.range 8)
  rw [List.length_range] at this
  exact this
theorem chs_len {N : Net8} {P : Px} {t : Nat} (h60 : P.nc ≤ 60) : (P.chs N t).length ≤ 2 ^ 24 := by
  unfold Px.chs
  rw [chF_chP 8 (Nat.le_refl 8), range8]
  exact Nat.le_trans (chP_len _ _) (prod_le (plc_nodup _) (plc_len _) h60)
/-- what is possible by the transitions below i -/
noncomputable def Px.posU (N : Net8) (P : Px) (i : Nat) : List Ent := (List.range i).flatMap (P.posT N)
theorem posU_s {N : Net8} {P : Px} {i : Nat} : P.posU N (i + 1) = P.posU N i ++ P.posT N i := by
  unfold Px.posU
  rw [List.range_succ, List.flatMap_append]; simp
theorem posU_lt {N : Net8} {P : Px} {i : Nat} : ∀ y ∈ P.posU N i, y.1 < i := fun y hy => by
  obtain ⟨t, ht, hy⟩ := List.mem_flatMap.mp hy
  obtain ⟨L, -, rfl⟩ := List.mem_map.mp hy
  exact List.mem_range.mp ht
theorem posU_len {N : Net8} {P : Px} {i : Nat} (h60 : P.nc ≤ 60) : (P.posU N i).length ≤ i * 2 ^ 24 := by
  have := fm_len (l := List.range i) (f := P.posT N) (m := 2 ^ 24) (fun t _ => Nat.le_trans (by unfold Px.posT; rw [List.length_map]; exact List.length_filter_le _ _) (chs_len (N := N) (t := t) h60))
  rw [List.length_range] at this
  exact this
theorem bl_all {L : List Nat} {i : Nat} {p : Nat → Prop} (h : i = L.length) : (∀ q, q < i → ∃ (h : q < L.length), p (L[q])) ↔ ∀ c ∈ L, p c := by
  constructor
  · intro q c hc
    obtain ⟨k, hk, e⟩ := List.mem_iff_getElem.mp hc
    obtain ⟨_, r⟩ := q k (by omega)
    rw [← e]; exact r
  · exact fun q k hk => ⟨by omega, q _ (List.getElem_mem _)⟩
