/-! The state of the reference's walk through the choices. -/
theorem hasv_and {a b : Int64} {e : Nat} : hasv (a &&& b) e = 0 ↔ (hasv a e = 0 ∨ hasv b e = 0) := by
  unfold hasv
  rw [Int64.toBitVec_and, BitVec.getLsbD_and]
  cases a.toBitVec.getLsbD e <;> cases b.toBitVec.getLsbD e <;> decide
def OpnI (P : Px) (gop : Nat → Int64) (C : List Nat) : Prop := ∀ q, q ≤ C.length → ∀ d, d < P.nc → (hasv (gop q) d = 0 ↔ ¬ (opC P.co (fun _ => true) (C.take q) d = true))
def ChS (P : Px) (ps : List Nat) (T : List (List Nat)) (g : Nat) (gch : Nat → Int32) (gop : Nat → Int64) (C : List Nat) (D : List (List Nat)) : Prop :=
  (g = 0 ∧ T = D) ∨ (g = C.length + 1 ∧ ChI gch C ∧ OpnI P gop C ∧ T = D ++ remP P.pl P.co P.nc ps (fun _ => true) C (gof (gch C.length)))
section CHS
variable {P : Px} {ps : List Nat} {T D : List (List Nat)} {gch : Nat → Int32} {gop : Nat → Int64} {C : List Nat} {j : Nat}
theorem ChS.start {gop : Nat → Int64} {p : Nat} {ps' : List Nat} (hps : ps = p :: ps') (hT : T = chP P.pl P.co P.nc ps (fun _ => true)) (h60 : P.nc ≤ 60) : ChS P ps T 1 (upd gch 0 (-1)) (vp_updL gop 0 (-1)) [] [] := by
  refine Or.inr ⟨rfl, fun k h => absurd h (Nat.not_lt_zero k), fun q hq d hd => ?_, ?_⟩
  · have : q = 0 := by have : q ≤ 0 := hq
                       omega
    subst this
    rw [updL_at]
    have e1 : hasv (-1) d = 1 := by
      unfold hasv
      rw [if_pos]
      have : (-1 : Int64).toBitVec = BitVec.allOnes 64 := by decide
      rw [this, BitVec.getLsbD_allOnes]
      simp; omega
    rw [e1]
    constructor
    · intro q; exact absurd q (by decide)
    · intro q; exact absurd (by unfold opC; simp) q
  · show T = [] ++ remP _ _ _ ps _ [] (gof (upd gch 0 (-1) 0))
    rw [List.nil_append, upd_at, gof_m1, hps, rem_all, ← hps]; exact hT
theorem ChS.at (h : ChS P ps T (j + 1) gch gop C D) : C.length = j ∧ ChI gch C ∧ OpnI P gop C ∧ T = D ++ remP P.pl P.co P.nc ps (fun _ => true) C (gof (gch j)) := by
  rcases h with ⟨h, -⟩ | ⟨h1, h2, h3, h4⟩
  · omega
  · have e : C.length = j := by omega
    exact ⟨e, h2, h3, e ▸ h4⟩
theorem ChI.skip {C : List Nat} {i : Nat} {v : Int32} (h : ChI gch C) (hi : C.length ≤ i) : ChI (upd gch i v) C := fun k hk => by
  rw [upd_ne (by omega)]; exact h k hk
theorem ChI.snoc {C : List Nat} {d : Nat} (h : ChI gch C) (hd : d < 60) : ChI (upd gch C.length (nI d)) (C ++ [d]) := fun k hk => by
  by_cases e : k = C.length
  · subst e
    rw [upd_at]
    have : (C ++ [d])[C.length]'hk = d := by simp
    rw [this]; exact ⟨rfl, hd⟩
  · have hk' : k < C.length := by rw [List.length_append] at hk; have : k < C.length + 1 := hk; omega
    rw [upd_ne e]
    have : (C ++ [d])[k]'hk = C[k] := List.getElem_append_left hk'
    rw [this]; exact h k hk'
theorem ChS.pop (h : ChS P ps T (j + 1) gch gop C D) (hj : j < ps.length) (hn : ∀ d, gof (gch j) ≤ d → d < P.nc → ¬ (opC P.co (fun _ => true) C d = true ∧ P.pl d = ps[j]'hj)) : ChS P ps T j (upd gch j (-1)) gop C.dropLast D := by
  obtain ⟨h1, h2, h3, h4⟩ := h.at
  cases j with
  | zero =>
    have e : C = [] := List.eq_nil_of_length_eq_zero h1
    subst e
    refine Or.inl ⟨rfl, ?_⟩
    cases ps with
    | nil => exact absurd hj (Nat.not_lt_zero _)
    | cons p ps =>
      rw [rem_end (p := p) (ps := ps) (fun d a b q => hn d a b q), List.append_nil] at h4
      exact h4
  | succ j =>
    have hne : C ≠ [] := fun e => by rw [e] at h1; cases h1
    have hC : C = C.dropLast ++ [C.getLast hne] := (List.dropLast_concat_getLast hne).symm
    have hl : C.dropLast.length = j := by rw [List.length_dropLast, h1]; rfl
    generalize C.getLast hne = c at hC
    generalize C.dropLast = C' at hC hl
    subst hC
    have hlen : (C' ++ [c]).length = j + 1 := h1
    have gc : gch j = nI c ∧ c < 60 := by
      have := h2 j (by omega)
      have e : (C' ++ [c])[j]'(by omega) = c := by subst hl; simp
      rw [e] at this; exact this
    refine Or.inr ⟨by omega, ?_, fun q hq d hd => ?_, ?_⟩
    · intro k hk
      have := h2 k (by rw [List.length_append]; show k < C'.length + 1; omega)
      rw [upd_ne (by omega)]
      have e : (C' ++ [c])[k]'(by rw [List.length_append]; show k < C'.length + 1; omega) = C'[k] := List.getElem_append_left hk
      rw [e] at this; exact this
    · have := h3 q (by rw [hlen]; omega) d hd
      rw [List.take_append_of_le_length hq] at this
      exact this
    · rw [h4, rem_pop (ps := ps) (C := C') (c := c) (s := gof (gch (j + 1))) (by omega) (fun d a b q => hn d a b ⟨q.1, by have e := q.2; simp only [hl] at e; exact e⟩), upd_ne (by omega), hl, gc.1, gof_nI gc.2]
theorem ChS.last (h : ChS P ps T (j + 1) gch gop C D) {d : Nat} (hj : j + 1 = ps.length) (hd : d < P.nc) (h60 : d < 60) (hs : gof (gch j) ≤ d) (ho : opC P.co (fun _ => true) C d = true ∧ P.pl d = ps[j]'(by omega)) (hl : ∀ z, gof (gch j) ≤ z → z < d → ¬ (opC P.co (fun _ => true) C z = true ∧ P.pl z = ps[j]'(by omega))) :
    ChS P ps T (j + 1) (upd gch j (nI d)) gop C (D ++ [C ++ [d]]) ∧ (C ++ [d]).length = ps.length ∧ ChI (upd gch j (nI d)) (C ++ [d]) ∧ ∃ R, T = D ++ ((C ++ [d]) :: R) := by
  obtain ⟨h1, h2, h3, h4⟩ := h.at
  subst h1
  have e := rem_last hd hs (ps := ps) (C := C) (op := fun _ => true) hj ho hl
  rw [e] at h4
  refine ⟨Or.inr ⟨rfl, h2.skip (Nat.le_refl _), h3, ?_⟩, by rw [List.length_append]; exact hj, h2.snoc h60, _, h4⟩
  rw [h4, upd_at, gof_nI h60, List.append_assoc]; rfl
theorem ChS.push (h : ChS P ps T (j + 1) gch gop C D) {d : Nat} {b : Int64} (hj : j + 1 < ps.length) (hd : d < P.nc) (h60 : d < 60) (hs : gof (gch j) ≤ d) (ho : opC P.co (fun _ => true) C d = true ∧ P.pl d = ps[j]'(by omega)) (hl : ∀ z, gof (gch j) ≤ z → z < d → ¬ (opC P.co (fun _ => true) C z = true ∧ P.pl z = ps[j]'(by omega))) (hb : ∀ z, z < P.nc → (hasv b z = 0 ↔ ¬ P.co d z = true)) :
    ChS P ps T (j + 2) (upd (upd gch j (nI d)) (j + 1) (-1)) (vp_updL gop (j + 1) (gop j &&& b)) (C ++ [d]) D := by
  obtain ⟨h1, h2, h3, h4⟩ := h.at
  subst h1
  have e := rem_push hd hs (ps := ps) (C := C) (op := fun _ => true) hj ho hl
  have hlen : (C ++ [d]).length = C.length + 1 := by rw [List.length_append]; rfl
  refine Or.inr ⟨by rw [hlen], (h2.snoc h60).skip (by rw [hlen]; exact Nat.le_refl _), fun q hq z hz => ?_, ?_⟩
  · rw [hlen] at hq
    by_cases eq : q = C.length + 1
    · subst eq
      rw [updL_at, hasv_and, h3 C.length (Nat.le_refl _) z hz, hb z hz, List.take_of_length_le (Nat.le_refl _), List.take_of_length_le (by rw [hlen]; exact Nat.le_refl _)]
      unfold opC
      rw [List.all_append]
      cases hA : C.all (fun y => P.co y z) <;> cases hB : P.co d z <;> simp [hB]
    · rw [updL_ne eq]
      have := h3 q (by omega) z hz
      rw [List.take_append_of_le_length (by omega)]
      exact this
  · rw [h4, e, hlen, upd_at, gof_m1]
end CHS
noncomputable def ntL (P : Px) (t : Nat) (D : List (List Nat)) : List Ent := (D.filter (fun L => @decide (¬ P.there t L) (@instDecidableNot _ (Classical.propDecidable _)))).map (fun L => (t, L))
section NT
variable {N : Net8} {P : Px} {t : Nat} {D : List (List Nat)} {L : List Nat}
theorem nt_y (h : P.there t L) : ntL P t (D ++ [L]) = ntL P t D := by
  unfold ntL
  rw [List.filter_append, List.filter_cons_of_neg (by simpa using h)]
  simp
theorem nt_n (h : ¬ P.there t L) : ntL P t (D ++ [L]) = ntL P t D ++ [(t, L)] := by
  unfold ntL
  rw [List.filter_append, List.filter_cons_of_pos (by simpa using h), List.map_append]
  rfl
theorem nt_0 : ntL P t [] = [] := rfl
theorem nt_all : ntL P t (P.chs N t) = P.posT N t := rfl
theorem nt_len : (ntL P t D).length ≤ D.length := by
  unfold ntL; rw [List.length_map]; exact List.length_filter_le _ _
theorem nt_aft {R : List (List Nat)} {acc0 : List Ent} (hT : P.chs N t = D ++ (L :: R)) (h0 : ∀ y ∈ acc0, y.1 < t) : ∀ y ∈ acc0 ++ ntL P t D, ltx y (t, L) := fun y hy => by
  rcases List.mem_append.mp hy with q | q
  · exact Or.inl (h0 y q)
  · obtain ⟨M, hM, rfl⟩ := List.mem_map.mp q
    refine Or.inr ⟨rfl, ?_⟩
    have hs : (P.chs N t).Pairwise lexlt := chF_sorted 8 _
    rw [hT] at hs
    exact (List.pairwise_append.mp hs).2.2 M (List.mem_filter.mp hM).1 L List.mem_cons_self
theorem nt_next {acc0 : List Ent} {mps : Int32} {mlr : Int64} {mlt mlm : Nat} {gle : Nat → Int32} {mev : Nat} (he : mev = P.ne) (h : ((∃ a, a < mev ∧ (P.tr a = t ∧ ∀ c, P.tk a c = true ↔ c ∈ L)) ∧ FsI (acc0 ++ ntL P t D) mps mlr mlt mlm gle P.rkv) ∨ (¬ (∃ a, a < mev ∧ (P.tr a = t ∧ ∀ c, P.tk a c = true ↔ c ∈ L)) ∧ FsI (acc0 ++ ntL P t D ++ [(t, L)]) mps mlr mlt mlm gle P.rkv)) : FsI (acc0 ++ ntL P t (D ++ [L])) mps mlr mlt mlm gle P.rkv := by
  subst he
  rcases h with ⟨h1, h2⟩ | ⟨h1, h2⟩
  · rw [nt_y h1]; exact h2
  · rw [nt_n h1, ← List.append_assoc]; exact h2
end NT
theorem ps_get {l : List Nat} {j : Nat} (h : j < l.length) : l.getD j 0 = l[j] := by
  rw [List.getD_eq_getElem?_getD, List.getElem?_eq_getElem h]; rfl
