set_option maxHeartbeats 4000000 in
set_option maxRecDepth 100000 in
theorem e_Mo_behindAll (l : Launch) (dC : Nat → ClassId) (dI : Nat → Nat → Nat) (cI cL cZ : ClassId) (sz : Nat) (m0 : Nat) (m1 : Nat) (m2 : Nat) (m3 : Nat) (m4 : Nat) (m5 : Nat) (m6 : Nat) (m7 : Nat) (m8 : Nat) (m9 : Nat) (m10 : Nat) (m11 : Nat) (m12 : Nat) (m13 : Nat) (m14 : Nat) (m15 : Nat) (m16 : Nat) (m17 : Nat) (mth : Int32) (mt : Nat) (mf : Int32) (mcd : Nat) (mev : Nat) (mwh : Int32) (mps : Int32) (mlr : Int64) (mlt : Nat) (mlm : Nat) (mln : Int32) (gbh : Nat → Int32) (gch : Nat → Int32) (n : Nat) (L : List Nat) (bh : Nat → Nat → Prop) (hn8 : n ≤ 8) (hln : L.length = n) (hCh : ChI gch L) (hBh : ∀ c, c ∈ L → B32 (gbh c) (bh c)) : Met l y_Mo_behindAll (Cond.code y_Mo_behindAll prog_11_method_16_code 4 (some .int) :: wsA) { frames := 0, cells := 0, slots := 0, locals := 0 } (va_Pc [.ref m0, .int (nI n)] (fun U => U.heap.size = sz ∧ va_P (dC, dI) clA [(m0, .inr (9, [.int mth, .int (nI mt), .ref m1, .ref m2, .int mf, .int (nI mcd), .ref m3, .ref m4, .ref m5, .ref m6, .int (nI mev), .ref m7, .ref m8, .ref m9, .ref m10, .ref m11, .ref m12, .ref m13, .int mwh, .int mps, .ref m14, .ref m15, .long mlr, .int (nI mlt), .int (nI mlm), .ref m16, .int mln, .ref m17])), (m5, .inl (cI, 60, .inl gbh)), (m14, .inl (cI, 8, .inl gch))] U.heap ∧ va_K (dC, dI) clA [(cI, .int), (cL, .long), (cZ, .boolean)] U ∧ va_D (fun _ => True) [(m0, .inr (9, [.int mth, .int (nI mt), .ref m1, .ref m2, .int mf, .int (nI mcd), .ref m3, .ref m4, .ref m5, .ref m6, .int (nI mev), .ref m7, .ref m8, .ref m9, .ref m10, .ref m11, .ref m12, .ref m13, .int mwh, .int mps, .ref m14, .ref m15, .long mlr, .int (nI mlt), .int (nI mlm), .ref m16, .int mln, .ref m17])), (m5, .inl (cI, 60, .inl gbh)), (m14, .inl (cI, 8, .inl gch))] ∧ NwA U)) (va_Qi (fun r (_ : Unit) => (B32 r (fun f => ∃ c, c ∈ L ∧ bh c f))) (fun _ t => va_P (dC, dI) clA [(m0, .inr (9, [.int mth, .int (nI mt), .ref m1, .ref m2, .int mf, .int (nI mcd), .ref m3, .ref m4, .ref m5, .ref m6, .int (nI mev), .ref m7, .ref m8, .ref m9, .ref m10, .ref m11, .ref m12, .ref m13, .int mwh, .int mps, .ref m14, .ref m15, .long mlr, .int (nI mlt), .int (nI mlm), .ref m16, .int mln, .ref m17])), (m5, .inl (cI, 60, .inl gbh)), (m14, .inl (cI, 8, .inl gch))] t.heap ∧ va_D (va_A [(m0, .inr (9, [.int mth, .int (nI mt), .ref m1, .ref m2, .int mf, .int (nI mcd), .ref m3, .ref m4, .ref m5, .ref m6, .int (nI mev), .ref m7, .ref m8, .ref m9, .ref m10, .ref m11, .ref m12, .ref m13, .int mwh, .int mps, .ref m14, .ref m15, .long mlr, .int (nI mlt), .int (nI mlm), .ref m16, .int mln, .ref m17])), (m5, .inl (cI, 60, .inl gbh)), (m14, .inl (cI, 8, .inl gch))] sz) [(m0, .inr (9, [.int mth, .int (nI mt), .ref m1, .ref m2, .int mf, .int (nI mcd), .ref m3, .ref m4, .ref m5, .ref m6, .int (nI mev), .ref m7, .ref m8, .ref m9, .ref m10, .ref m11, .ref m12, .ref m13, .int mwh, .int mps, .ref m14, .ref m15, .long mlr, .int (nI mlt), .int (nI mlm), .ref m16, .int mln, .ref m17])), (m5, .inl (cI, 60, .inl gbh)), (m14, .inl (cI, 8, .inl gch))]) (va_A [(m0, .inr (9, [.int mth, .int (nI mt), .ref m1, .ref m2, .int mf, .int (nI mcd), .ref m3, .ref m4, .ref m5, .ref m6, .int (nI mev), .ref m7, .ref m8, .ref m9, .ref m10, .ref m11, .ref m12, .ref m13, .int mwh, .int mps, .ref m14, .ref m15, .long mlr, .int (nI mlt), .int (nI mlm), .ref m16, .int mln, .ref m17])), (m5, .inl (cI, 60, .inl gbh)), (m14, .inl (cI, 8, .inl gch))] sz)) 0 0 (va_A [(m0, .inr (9, [.int mth, .int (nI mt), .ref m1, .ref m2, .int mf, .int (nI mcd), .ref m3, .ref m4, .ref m5, .ref m6, .int (nI mev), .ref m7, .ref m8, .ref m9, .ref m10, .ref m11, .ref m12, .ref m13, .int mwh, .int mps, .ref m14, .ref m15, .long mlr, .int (nI mlt), .int (nI mlm), .ref m16, .int mln, .ref m17])), (m5, .inl (cI, 60, .inl gbh)), (m14, .inl (cI, 8, .inl gch))] sz) := by
  refine Met.ofW (cc := prog_11_method_16_code) (maxL := 4) (ret := (some .int)) (by decide) rfl ?_
  intro p e s m args below meth c s₁ B hml hv
  obtain ⟨rfl, hsz, hP, hK, hD0, hN⟩ := hv
  have hx := B.exec
  have hb := B.bytes
  have hr := B.returns
  have ht : ∀ w ∈ wsA, w.before _ s = true := fun w h => atoms_spec (ws := (Cond.code y_Mo_behindAll prog_11_method_16_code 4 (some .int) :: wsA)) B.pre w (List.mem_cons_of_mem _ h)
  have hown : s.vm.findClass "NetUnfolderModel" = some m.cls := findClass_of_methodNamed B.named
  have hlocks := B.notSynchronized
  subst hsz
  have hD := hD0.self (sz := s.heap.size)
  generalize hAe : va_A [(m0, .inr (9, [.int mth, .int (nI mt), .ref m1, .ref m2, .int mf, .int (nI mcd), .ref m3, .ref m4, .ref m5, .ref m6, .int (nI mev), .ref m7, .ref m8, .ref m9, .ref m10, .ref m11, .ref m12, .ref m13, .int mwh, .int mps, .ref m14, .ref m15, .long mlr, .int (nI mlt), .int (nI mlm), .ref m16, .int mln, .ref m17])), (m5, .inl (cI, 60, .inl gbh)), (m14, .inl (cI, 8, .inl gch))] s.heap.size = A at hD ⊢
  have hA : ∀ q : Nat, s.heap.size ≤ q → A q := fun q h => by rw [← hAe]; exact Or.inr h
  have hS : va_S A s.heap s.heap [] := va_S.rf
  have hl := lv_entry ([.ref m0, .int (nI n)]) (n := 4) (Nat.le_of_ble_eq_true rfl)
  rw [lg_entry_eq]
  generalize (lg_sl ([.ref m0, .int (nI n)]) ++ List.replicate (4 - (lg_sl ([.ref m0, .int (nI n)])).length) Slot.unset).toArray = ls at hl ⊢
  replace hl : lv_has ls 4 [(0, .ref m0), (1, .int (nI n))] := hl
  refine W_Q (fun Q hQ => ?_)
  refine lv_iconst (v := 0) hx hb d_Mo_behindAll_0 (by decide) ?_
  refine lv_istore_n (lv' := [(2, .int 0), (0, .ref m0), (1, .int (nI n))]) hx hb d_Mo_behindAll_1 rfl hl (by decide) rfl (fun ls hln => ?_)
  replace hl : lv_has ls 4 [(2, .int 0), (0, .ref m0), (1, .int (nI n))] := hln
  clear hln
  refine lv_iconst (v := 0) hx hb d_Mo_behindAll_2 (by decide) ?_
  refine lv_istore_n (lv' := [(3, .int 0), (2, .int 0), (0, .ref m0), (1, .int (nI n))]) hx hb d_Mo_behindAll_3 rfl hl (by decide) rfl (fun ls hln => ?_)
  replace hl : lv_has ls 4 [(3, .int 0), (2, .int 0), (0, .ref m0), (1, .int (nI n))] := hln
  clear hln
  have hloop1 : ∀ (n4 : Nat) (v : Int32) (i : Nat) (hi : i ≤ n) (hv : B32 v (fun f => ∃ q, q < i ∧ ∃ (h : q < L.length), bh (L[q]) f)) (H : Heap) (locs : List Loc) (ls : Array Slot) (hl : lv_has ls 4 [(0, .ref m0), (1, .int (nI n)), (2, .int v), (3, .int (nI i))]) (hP : va_P (dC, dI) clA [(m0, .inr (9, [.int mth, .int (nI mt), .ref m1, .ref m2, .int mf, .int (nI mcd), .ref m3, .ref m4, .ref m5, .ref m6, .int (nI mev), .ref m7, .ref m8, .ref m9, .ref m10, .ref m11, .ref m12, .ref m13, .int mwh, .int mps, .ref m14, .ref m15, .long mlr, .int (nI mlt), .int (nI mlm), .ref m16, .int mln, .ref m17])), (m5, .inl (cI, 60, .inl gbh)), (m14, .inl (cI, 8, .inl gch))] H) (hD : va_D A [(m0, .inr (9, [.int mth, .int (nI mt), .ref m1, .ref m2, .int mf, .int (nI mcd), .ref m3, .ref m4, .ref m5, .ref m6, .int (nI mev), .ref m7, .ref m8, .ref m9, .ref m10, .ref m11, .ref m12, .ref m13, .int mwh, .int mps, .ref m14, .ref m15, .long mlr, .int (nI mlt), .int (nI mlm), .ref m16, .int mln, .ref m17])), (m5, .inl (cI, 60, .inl gbh)), (m14, .inl (cI, 8, .inl gch))]) (hS : va_S A s.heap H locs) (hm4 : n - i < n4), W p l e (headSpec (Cond.code y_Mo_behindAll prog_11_method_16_code 4 (some .int) :: wsA) { frames := 0, cells := 0, slots := 0, locals := 0 }).room s m ([.ref m0, .int (nI n)] : List Value).toArray below meth c H locs 0 0 Q (F0 m 4 ls []) := by
    clear hl hP hD hS
    intro n4
    induction n4 with
    | zero => intro v i hi hv H locs ls hl hP hD hS hm; exact absurd hm (Nat.not_lt_zero _)
    | succ n4 hloop1_ih =>
      intro v i hi hv H locs ls hl hP hD hS hm4
      refine lv_iload_n hx hb d_Mo_behindAll_4 rfl (lv_at hl 3 rfl) ?_
      refine lv_iload_n hx hb d_Mo_behindAll_5 rfl (lv_at hl 1 rfl) ?_
      refine lv_icmp_ge (tgt := 29) hx hb d_Mo_behindAll_6 (by decide) (fun hb2 => ?_) (fun hb2 => ?_)
      · skip
        replace hb2 := cv_le (a := n) (b := i) (by omega) (by omega) hb2
        refine lv_iload_n hx hb d_Mo_behindAll_29 rfl (lv_at hl 2 rfl) ?_
        have hP9 := hP.sub (ws' := [(m0, .inr (9, [.int mth, .int (nI mt), .ref m1, .ref m2, .int mf, .int (nI mcd), .ref m3, .ref m4, .ref m5, .ref m6, .int (nI mev), .ref m7, .ref m8, .ref m9, .ref m10, .ref m11, .ref m12, .ref m13, .int mwh, .int mps, .ref m14, .ref m15, .long mlr, .int (nI mlt), .int (nI mlm), .ref m16, .int mln, .ref m17])), (m5, .inl (cI, 60, .inl gbh)), (m14, .inl (cI, 8, .inl gch))]) [0, 1, 2] rfl
        have hD9 := hD.sub (ws' := [(m0, .inr (9, [.int mth, .int (nI mt), .ref m1, .ref m2, .int mf, .int (nI mcd), .ref m3, .ref m4, .ref m5, .ref m6, .int (nI mev), .ref m7, .ref m8, .ref m9, .ref m10, .ref m11, .ref m12, .ref m13, .int mwh, .int mps, .ref m14, .ref m15, .long mlr, .int (nI mlt), .int (nI mlm), .ref m16, .int mln, .ref m17])), (m5, .inl (cI, 60, .inl gbh)), (m14, .inl (cI, 8, .inl gch))]) [0, 1, 2] (by decide) rfl
        subst hQ
        exact W.iret (v := v) hx hb hr (fun t9 ht9 hW => ⟨⟨v, (), rfl, (hv.congr (fun f => by have e9 : i = n := (by omega); rw [e9]; exact ch_ex hln (fun c => bh c f))), by rw [ht9]; exact hP9, hD9⟩, hS.F ht9⟩) hS.2.2 d_Mo_behindAll_30
      · skip
        replace hb2 := cv_nle (a := n) (b := i) (by omega) (by omega) hb2
        refine lv_iload_n hx hb d_Mo_behindAll_9 rfl (lv_at hl 2 rfl) ?_
        refine lv_aload_n hx hb d_Mo_behindAll_10 rfl (lv_at hl 0 rfl) ?_
        refine va_get (D := (dC, dI)) (ci := 9) (v := .ref m5) (C := "NetUnfolderModel") (T := T_Mo) (N := 28) hx hb ht in_Mo hown hK hP 0 rfl rfl 8 (by decide) (ht _ wd_4_8) (fun _ h9 => h9) rfl d_Mo_behindAll_11 ?_
        refine lv_aload_n hx hb d_Mo_behindAll_14 rfl (lv_at hl 0 rfl) ?_
        refine va_get (D := (dC, dI)) (ci := 9) (v := .ref m14) (C := "NetUnfolderModel") (T := T_Mo) (N := 28) hx hb ht in_Mo hown hK hP 0 rfl rfl 20 (by decide) (ht _ wd_4_20) (fun _ h9 => h9) rfl d_Mo_behindAll_15 ?_
        refine lv_iload_n hx hb d_Mo_behindAll_18 rfl (lv_at hl 3 rfl) ?_
        refine na_iald (k := i) hx hb hK hP 2 0 rfl rfl (by omega) (by decide) d_Mo_behindAll_19 ?_
        refine ci_i (y := nI (L[i])) (hCh i (by omega)).1 ?_
        have hLi := (hCh i (by omega)).2
        refine na_iald (k := (L[i])) hx hb hK hP 1 0 rfl rfl (by omega) (by decide) d_Mo_behindAll_20 ?_
        refine lv_ior hx hb d_Mo_behindAll_21 ?_
        refine lv_istore_n (lv' := [(2, .int (v ||| (gbh (L[i])))), (0, .ref m0), (1, .int (nI n)), (3, .int (nI i))]) hx hb d_Mo_behindAll_22 rfl hl (by decide) rfl (fun ls hln => ?_)
        replace hl : lv_has ls 4 [(2, .int (v ||| (gbh (L[i])))), (0, .ref m0), (1, .int (nI n)), (3, .int (nI i))] := hln
        clear hln
        refine lv_iinc (k := 3) (v := nI (i + 1)) (lv' := [(3, .int (nI (i + 1))), (2, .int (v ||| (gbh (L[i])))), (0, .ref m0), (1, .int (nI n))]) hx hb d_Mo_behindAll_23 hl rfl (nI_1 _) (by decide) rfl (fun ls hln => ?_)
        replace hl : lv_has ls 4 [(3, .int (nI (i + 1))), (2, .int (v ||| (gbh (L[i])))), (0, .ref m0), (1, .int (nI n))] := hln
        clear hln
        refine lv_goto (tgt := 4) hx hb d_Mo_behindAll_26 (by decide) ?_
        exact hloop1_ih (v ||| (gbh (L[i]))) (i + 1) (by first | assumption | omega | trivial | exact AllLt.zero | exact AllN.zero | exact AllM.zero | exact Or.inl rfl | exact Or.inr rfl) (a32_or hv ((hBh _ (List.getElem_mem (by omega))).congr (fun f => ⟨fun q => ⟨by omega, q⟩, fun ⟨_, q⟩ => q⟩))) _ _ ls (lv_sub hl [2, 3, 1, 0] rfl) (hP.sub [0, 1, 2] rfl) (hD.sub [0, 1, 2] (by decide) rfl) hS (by omega)
  exact hloop1 ((n - 0) + 1) 0 0 (by first | assumption | omega | trivial | exact AllLt.zero | exact AllN.zero | exact AllM.zero | exact Or.inl rfl | exact Or.inr rfl) a32_0 _ _ ls (lv_sub hl [2, 3, 1, 0] rfl) hP hD hS (Nat.lt_succ_self _)

set_option maxHeartbeats 4000000 in
set_option maxRecDepth 100000 in
theorem e_Mo_setOf (l : Launch) (dC : Nat → ClassId) (dI : Nat → Nat → Nat) (cI cL cZ : ClassId) (sz : Nat) (m0 : Nat) (m1 : Nat) (m2 : Nat) (m3 : Nat) (m4 : Nat) (m5 : Nat) (m6 : Nat) (m7 : Nat) (m8 : Nat) (m9 : Nat) (m10 : Nat) (m11 : Nat) (m12 : Nat) (m13 : Nat) (m14 : Nat) (m15 : Nat) (m16 : Nat) (m17 : Nat) (mth : Int32) (mt : Nat) (mf : Int32) (mcd : Nat) (mev : Nat) (mwh : Int32) (mps : Int32) (mlr : Int64) (mlt : Nat) (mlm : Nat) (mln : Int32) (gch : Nat → Int32) (n : Nat) (L : List Nat) (hn8 : n ≤ 8) (hln : L.length = n) (hCh : ChI gch L) : Met l y_Mo_setOf (Cond.code y_Mo_setOf prog_11_method_17_code 5 (some .long) :: wsA) { frames := 0, cells := 0, slots := 0, locals := 0 } (va_Pc [.ref m0, .int (nI n)] (fun U => U.heap.size = sz ∧ va_P (dC, dI) clA [(m0, .inr (9, [.int mth, .int (nI mt), .ref m1, .ref m2, .int mf, .int (nI mcd), .ref m3, .ref m4, .ref m5, .ref m6, .int (nI mev), .ref m7, .ref m8, .ref m9, .ref m10, .ref m11, .ref m12, .ref m13, .int mwh, .int mps, .ref m14, .ref m15, .long mlr, .int (nI mlt), .int (nI mlm), .ref m16, .int mln, .ref m17])), (m14, .inl (cI, 8, .inl gch))] U.heap ∧ va_K (dC, dI) clA [(cI, .int), (cL, .long), (cZ, .boolean)] U ∧ va_D (fun _ => True) [(m0, .inr (9, [.int mth, .int (nI mt), .ref m1, .ref m2, .int mf, .int (nI mcd), .ref m3, .ref m4, .ref m5, .ref m6, .int (nI mev), .ref m7, .ref m8, .ref m9, .ref m10, .ref m11, .ref m12, .ref m13, .int mwh, .int mps, .ref m14, .ref m15, .long mlr, .int (nI mlt), .int (nI mlm), .ref m16, .int mln, .ref m17])), (m14, .inl (cI, 8, .inl gch))] ∧ NwA U)) (va_Ql (fun r (_ : Unit) => (B64 r (fun f => f ∈ L))) (fun _ t => va_P (dC, dI) clA [(m0, .inr (9, [.int mth, .int (nI mt), .ref m1, .ref m2, .int mf, .int (nI mcd), .ref m3, .ref m4, .ref m5, .ref m6, .int (nI mev), .ref m7, .ref m8, .ref m9, .ref m10, .ref m11, .ref m12, .ref m13, .int mwh, .int mps, .ref m14, .ref m15, .long mlr, .int (nI mlt), .int (nI mlm), .ref m16, .int mln, .ref m17])), (m14, .inl (cI, 8, .inl gch))] t.heap ∧ va_D (va_A [(m0, .inr (9, [.int mth, .int (nI mt), .ref m1, .ref m2, .int mf, .int (nI mcd), .ref m3, .ref m4, .ref m5, .ref m6, .int (nI mev), .ref m7, .ref m8, .ref m9, .ref m10, .ref m11, .ref m12, .ref m13, .int mwh, .int mps, .ref m14, .ref m15, .long mlr, .int (nI mlt), .int (nI mlm), .ref m16, .int mln, .ref m17])), (m14, .inl (cI, 8, .inl gch))] sz) [(m0, .inr (9, [.int mth, .int (nI mt), .ref m1, .ref m2, .int mf, .int (nI mcd), .ref m3, .ref m4, .ref m5, .ref m6, .int (nI mev), .ref m7, .ref m8, .ref m9, .ref m10, .ref m11, .ref m12, .ref m13, .int mwh, .int mps, .ref m14, .ref m15, .long mlr, .int (nI mlt), .int (nI mlm), .ref m16, .int mln, .ref m17])), (m14, .inl (cI, 8, .inl gch))]) (va_A [(m0, .inr (9, [.int mth, .int (nI mt), .ref m1, .ref m2, .int mf, .int (nI mcd), .ref m3, .ref m4, .ref m5, .ref m6, .int (nI mev), .ref m7, .ref m8, .ref m9, .ref m10, .ref m11, .ref m12, .ref m13, .int mwh, .int mps, .ref m14, .ref m15, .long mlr, .int (nI mlt), .int (nI mlm), .ref m16, .int mln, .ref m17])), (m14, .inl (cI, 8, .inl gch))] sz)) 0 0 (va_A [(m0, .inr (9, [.int mth, .int (nI mt), .ref m1, .ref m2, .int mf, .int (nI mcd), .ref m3, .ref m4, .ref m5, .ref m6, .int (nI mev), .ref m7, .ref m8, .ref m9, .ref m10, .ref m11, .ref m12, .ref m13, .int mwh, .int mps, .ref m14, .ref m15, .long mlr, .int (nI mlt), .int (nI mlm), .ref m16, .int mln, .ref m17])), (m14, .inl (cI, 8, .inl gch))] sz) := by
  refine Met.ofW (cc := prog_11_method_17_code) (maxL := 5) (ret := (some .long)) (by decide) rfl ?_
  intro p e s m args below meth c s₁ B hml hv
  obtain ⟨rfl, hsz, hP, hK, hD0, hN⟩ := hv
  have hx := B.exec
  have hb := B.bytes
  have hr := B.returns
  have ht : ∀ w ∈ wsA, w.before _ s = true := fun w h => atoms_spec (ws := (Cond.code y_Mo_setOf prog_11_method_17_code 5 (some .long) :: wsA)) B.pre w (List.mem_cons_of_mem _ h)
  have hown : s.vm.findClass "NetUnfolderModel" = some m.cls := findClass_of_methodNamed B.named
  have hlocks := B.notSynchronized
  subst hsz
  have hD := hD0.self (sz := s.heap.size)
  generalize hAe : va_A [(m0, .inr (9, [.int mth, .int (nI mt), .ref m1, .ref m2, .int mf, .int (nI mcd), .ref m3, .ref m4, .ref m5, .ref m6, .int (nI mev), .ref m7, .ref m8, .ref m9, .ref m10, .ref m11, .ref m12, .ref m13, .int mwh, .int mps, .ref m14, .ref m15, .long mlr, .int (nI mlt), .int (nI mlm), .ref m16, .int mln, .ref m17])), (m14, .inl (cI, 8, .inl gch))] s.heap.size = A at hD ⊢
  have hA : ∀ q : Nat, s.heap.size ≤ q → A q := fun q h => by rw [← hAe]; exact Or.inr h
  have hS : va_S A s.heap s.heap [] := va_S.rf
  have hl := lv_entry ([.ref m0, .int (nI n)]) (n := 5) (Nat.le_of_ble_eq_true rfl)
  rw [lg_entry_eq]
  generalize (lg_sl ([.ref m0, .int (nI n)]) ++ List.replicate (5 - (lg_sl ([.ref m0, .int (nI n)])).length) Slot.unset).toArray = ls at hl ⊢
  replace hl : lv_has ls 5 [(0, .ref m0), (1, .int (nI n))] := hl
  refine W_Q (fun Q hQ => ?_)
  refine lv_lconst (v := 0) hx hb d_Mo_setOf_0 (by decide) ?_
  refine lv_lstore_n (lv' := [(2, .long 0), (0, .ref m0), (1, .int (nI n))]) hx hb d_Mo_setOf_1 rfl hl (by decide) rfl (fun ls hln => ?_)
  replace hl : lv_has ls 5 [(2, .long 0), (0, .ref m0), (1, .int (nI n))] := hln
  clear hln
  refine lv_iconst (v := 0) hx hb d_Mo_setOf_2 (by decide) ?_
  refine lv_istore (lv' := [(4, .int 0), (2, .long 0), (0, .ref m0), (1, .int (nI n))]) hx hb d_Mo_setOf_3 hl (by decide) rfl (fun ls hln => ?_)
  replace hl : lv_has ls 5 [(4, .int 0), (2, .long 0), (0, .ref m0), (1, .int (nI n))] := hln
  clear hln
  have hloop1 : ∀ (n5 : Nat) (v : Int64) (i : Nat) (hi : i ≤ n) (hv : B64 v (fun f => ∃ q, q < i ∧ ∃ (h : q < L.length), f = (L[q]))) (H : Heap) (locs : List Loc) (ls : Array Slot) (hl : lv_has ls 5 [(0, .ref m0), (1, .int (nI n)), (2, .long v), (4, .int (nI i))]) (hP : va_P (dC, dI) clA [(m0, .inr (9, [.int mth, .int (nI mt), .ref m1, .ref m2, .int mf, .int (nI mcd), .ref m3, .ref m4, .ref m5, .ref m6, .int (nI mev), .ref m7, .ref m8, .ref m9, .ref m10, .ref m11, .ref m12, .ref m13, .int mwh, .int mps, .ref m14, .ref m15, .long mlr, .int (nI mlt), .int (nI mlm), .ref m16, .int mln, .ref m17])), (m14, .inl (cI, 8, .inl gch))] H) (hD : va_D A [(m0, .inr (9, [.int mth, .int (nI mt), .ref m1, .ref m2, .int mf, .int (nI mcd), .ref m3, .ref m4, .ref m5, .ref m6, .int (nI mev), .ref m7, .ref m8, .ref m9, .ref m10, .ref m11, .ref m12, .ref m13, .int mwh, .int mps, .ref m14, .ref m15, .long mlr, .int (nI mlt), .int (nI mlm), .ref m16, .int mln, .ref m17])), (m14, .inl (cI, 8, .inl gch))]) (hS : va_S A s.heap H locs) (hm5 : n - i < n5), W p l e (headSpec (Cond.code y_Mo_setOf prog_11_method_17_code 5 (some .long) :: wsA) { frames := 0, cells := 0, slots := 0, locals := 0 }).room s m ([.ref m0, .int (nI n)] : List Value).toArray below meth c H locs 0 0 Q (F0 m 5 ls []) := by
    clear hl hP hD hS
    intro n5
    induction n5 with
    | zero => intro v i hi hv H locs ls hl hP hD hS hm; exact absurd hm (Nat.not_lt_zero _)
    | succ n5 hloop1_ih =>
      intro v i hi hv H locs ls hl hP hD hS hm5
      refine lv_iload hx hb d_Mo_setOf_5 (lv_at hl 3 rfl) ?_
      refine lv_iload_n hx hb d_Mo_setOf_7 rfl (lv_at hl 1 rfl) ?_
      refine lv_icmp_ge (tgt := 29) hx hb d_Mo_setOf_8 (by decide) (fun hb2 => ?_) (fun hb2 => ?_)
      · skip
        replace hb2 := cv_le (a := n) (b := i) (by omega) (by omega) hb2
        refine lv_lload_n hx hb d_Mo_setOf_29 rfl (lv_at hl 2 rfl) ?_
        have hP9 := hP.sub (ws' := [(m0, .inr (9, [.int mth, .int (nI mt), .ref m1, .ref m2, .int mf, .int (nI mcd), .ref m3, .ref m4, .ref m5, .ref m6, .int (nI mev), .ref m7, .ref m8, .ref m9, .ref m10, .ref m11, .ref m12, .ref m13, .int mwh, .int mps, .ref m14, .ref m15, .long mlr, .int (nI mlt), .int (nI mlm), .ref m16, .int mln, .ref m17])), (m14, .inl (cI, 8, .inl gch))]) [0, 1] rfl
        have hD9 := hD.sub (ws' := [(m0, .inr (9, [.int mth, .int (nI mt), .ref m1, .ref m2, .int mf, .int (nI mcd), .ref m3, .ref m4, .ref m5, .ref m6, .int (nI mev), .ref m7, .ref m8, .ref m9, .ref m10, .ref m11, .ref m12, .ref m13, .int mwh, .int mps, .ref m14, .ref m15, .long mlr, .int (nI mlt), .int (nI mlm), .ref m16, .int mln, .ref m17])), (m14, .inl (cI, 8, .inl gch))]) [0, 1] (by decide) rfl
        subst hQ
        exact W.lret (v := v) hx hb hr (fun t9 ht9 hW => ⟨⟨v, (), rfl, (hv.congr (fun f => by have e9 : i = n := (by omega); rw [e9]; exact (ch_ex hln (fun c => f = c)).trans ⟨fun ⟨c, h1, h2⟩ => h2 ▸ h1, fun q => ⟨f, q, rfl⟩⟩)), by rw [ht9]; exact hP9, hD9⟩, hS.F ht9⟩) hS.2.2 d_Mo_setOf_30
      · skip
        replace hb2 := cv_nle (a := n) (b := i) (by omega) (by omega) hb2
        refine lv_lload_n hx hb d_Mo_setOf_11 rfl (lv_at hl 2 rfl) ?_
        refine lv_lconst (v := 1) hx hb d_Mo_setOf_12 (by decide) ?_
        refine lv_aload_n hx hb d_Mo_setOf_13 rfl (lv_at hl 0 rfl) ?_
        refine va_get (D := (dC, dI)) (ci := 9) (v := .ref m14) (C := "NetUnfolderModel") (T := T_Mo) (N := 28) hx hb ht in_Mo hown hK hP 0 rfl rfl 20 (by decide) (ht _ wd_4_20) (fun _ h9 => h9) rfl d_Mo_setOf_14 ?_
        refine lv_iload hx hb d_Mo_setOf_17 (lv_at hl 3 rfl) ?_
        refine na_iald (k := i) hx hb hK hP 1 0 rfl rfl (by omega) (by decide) d_Mo_setOf_19 ?_
        refine ci_i (y := nI (L[i])) (hCh i (by omega)).1 ?_
        have hLi := (hCh i (by omega)).2
        refine lv_lshl (v := 1 <<< (Int32.toInt64 (nI (L[i])) &&& 63)) hx hb d_Mo_setOf_20 rfl ?_
        refine lv_lor hx hb d_Mo_setOf_21 ?_
        refine lv_lstore_n (lv' := [(2, .long (v ||| (1 <<< (Int32.toInt64 (nI (L[i])) &&& 63)))), (0, .ref m0), (1, .int (nI n)), (4, .int (nI i))]) hx hb d_Mo_setOf_22 rfl hl (by decide) rfl (fun ls hln => ?_)
        replace hl : lv_has ls 5 [(2, .long (v ||| (1 <<< (Int32.toInt64 (nI (L[i])) &&& 63)))), (0, .ref m0), (1, .int (nI n)), (4, .int (nI i))] := hln
        clear hln
        refine lv_iinc (k := 3) (v := nI (i + 1)) (lv' := [(4, .int (nI (i + 1))), (2, .long (v ||| (1 <<< (Int32.toInt64 (nI (L[i])) &&& 63)))), (0, .ref m0), (1, .int (nI n))]) hx hb d_Mo_setOf_23 hl rfl (nI_1 _) (by decide) rfl (fun ls hln => ?_)
        replace hl : lv_has ls 5 [(4, .int (nI (i + 1))), (2, .long (v ||| (1 <<< (Int32.toInt64 (nI (L[i])) &&& 63)))), (0, .ref m0), (1, .int (nI n))] := hln
        clear hln
        refine lv_goto (tgt := 5) hx hb d_Mo_setOf_26 (by decide) ?_
        exact hloop1_ih (v ||| (1 <<< (Int32.toInt64 (nI (L[i])) &&& 63))) (i + 1) (by first | assumption | omega | trivial | exact AllLt.zero | exact AllN.zero | exact AllM.zero | exact Or.inl rfl | exact Or.inr rfl) (a64_or hv ((B64.bit (by omega)).congr (fun f => ⟨fun q => ⟨by omega, q⟩, fun ⟨_, q⟩ => q⟩))) _ _ ls (lv_sub hl [2, 3, 1, 0] rfl) (hP.sub [0, 1] rfl) (hD.sub [0, 1] (by decide) rfl) hS (by omega)
  exact hloop1 ((n - 0) + 1) 0 0 (by first | assumption | omega | trivial | exact AllLt.zero | exact AllN.zero | exact AllM.zero | exact Or.inl rfl | exact Or.inr rfl) a64_0 _ _ ls (lv_sub hl [2, 3, 1, 0] rfl) hP hD hS (Nat.lt_succ_self _)

set_option maxHeartbeats 4000000 in
set_option maxRecDepth 100000 in
theorem e_Mo_isThere (l : Launch) (dC : Nat → ClassId) (dI : Nat → Nat → Nat) (cI cL cZ : ClassId) (sz : Nat) (m0 : Nat) (m1 : Nat) (m2 : Nat) (m3 : Nat) (m4 : Nat) (m5 : Nat) (m6 : Nat) (m7 : Nat) (m8 : Nat) (m9 : Nat) (m10 : Nat) (m11 : Nat) (m12 : Nat) (m13 : Nat) (m14 : Nat) (m15 : Nat) (m16 : Nat) (m17 : Nat) (mth : Int32) (mt : Nat) (mf : Int32) (mcd : Nat) (mev : Nat) (mwh : Int32) (mps : Int32) (mlr : Int64) (mlt : Nat) (mlm : Nat) (mln : Int32) (gtr : Nat → Int32) (gtn : Nat → Int64) (gch : Nat → Int32) (k : Nat) (n : Nat) (L : List Nat) (tr : Nat → Nat) (tk : Nat → Nat → Prop) (hev : mev ≤ 30) (hk : k < 8) (hn8 : n ≤ 8) (hln : L.length = n) (hCh : ChI gch L) (hTra : TraI mev gtr tr) (hTn : ∀ a, a < mev → B64 (gtn a) (tk a)) : Met l y_Mo_isThere (Cond.code y_Mo_isThere prog_11_method_18_code 7 (some .boolean) :: wsA) { frames := 1, cells := 0, slots := 0, locals := 24 } (va_Pc [.ref m0, .int (nI k), .int (nI n)] (fun U => U.heap.size = sz ∧ va_P (dC, dI) clA [(m0, .inr (9, [.int mth, .int (nI mt), .ref m1, .ref m2, .int mf, .int (nI mcd), .ref m3, .ref m4, .ref m5, .ref m6, .int (nI mev), .ref m7, .ref m8, .ref m9, .ref m10, .ref m11, .ref m12, .ref m13, .int mwh, .int mps, .ref m14, .ref m15, .long mlr, .int (nI mlt), .int (nI mlm), .ref m16, .int mln, .ref m17])), (m7, .inl (cI, 30, .inl gtr)), (m9, .inl (cL, 30, .inr (.inl gtn))), (m14, .inl (cI, 8, .inl gch))] U.heap ∧ va_K (dC, dI) clA [(cI, .int), (cL, .long), (cZ, .boolean)] U ∧ va_D (fun _ => True) [(m0, .inr (9, [.int mth, .int (nI mt), .ref m1, .ref m2, .int mf, .int (nI mcd), .ref m3, .ref m4, .ref m5, .ref m6, .int (nI mev), .ref m7, .ref m8, .ref m9, .ref m10, .ref m11, .ref m12, .ref m13, .int mwh, .int mps, .ref m14, .ref m15, .long mlr, .int (nI mlt), .int (nI mlm), .ref m16, .int mln, .ref m17])), (m7, .inl (cI, 30, .inl gtr)), (m9, .inl (cL, 30, .inr (.inl gtn))), (m14, .inl (cI, 8, .inl gch))] ∧ NwA U)) (va_Qi (fun r (_ : Unit) => ((r = 1 ∧ (∃ a, a < mev ∧ (tr a = k ∧ ∀ c, tk a c ↔ c ∈ L))) ∨ (r = 0 ∧ ¬ (∃ a, a < mev ∧ (tr a = k ∧ ∀ c, tk a c ↔ c ∈ L))))) (fun _ t => va_P (dC, dI) clA [(m0, .inr (9, [.int mth, .int (nI mt), .ref m1, .ref m2, .int mf, .int (nI mcd), .ref m3, .ref m4, .ref m5, .ref m6, .int (nI mev), .ref m7, .ref m8, .ref m9, .ref m10, .ref m11, .ref m12, .ref m13, .int mwh, .int mps, .ref m14, .ref m15, .long mlr, .int (nI mlt), .int (nI mlm), .ref m16, .int mln, .ref m17])), (m7, .inl (cI, 30, .inl gtr)), (m9, .inl (cL, 30, .inr (.inl gtn))), (m14, .inl (cI, 8, .inl gch))] t.heap ∧ va_D (va_A [(m0, .inr (9, [.int mth, .int (nI mt), .ref m1, .ref m2, .int mf, .int (nI mcd), .ref m3, .ref m4, .ref m5, .ref m6, .int (nI mev), .ref m7, .ref m8, .ref m9, .ref m10, .ref m11, .ref m12, .ref m13, .int mwh, .int mps, .ref m14, .ref m15, .long mlr, .int (nI mlt), .int (nI mlm), .ref m16, .int mln, .ref m17])), (m7, .inl (cI, 30, .inl gtr)), (m9, .inl (cL, 30, .inr (.inl gtn))), (m14, .inl (cI, 8, .inl gch))] sz) [(m0, .inr (9, [.int mth, .int (nI mt), .ref m1, .ref m2, .int mf, .int (nI mcd), .ref m3, .ref m4, .ref m5, .ref m6, .int (nI mev), .ref m7, .ref m8, .ref m9, .ref m10, .ref m11, .ref m12, .ref m13, .int mwh, .int mps, .ref m14, .ref m15, .long mlr, .int (nI mlt), .int (nI mlm), .ref m16, .int mln, .ref m17])), (m7, .inl (cI, 30, .inl gtr)), (m9, .inl (cL, 30, .inr (.inl gtn))), (m14, .inl (cI, 8, .inl gch))]) (va_A [(m0, .inr (9, [.int mth, .int (nI mt), .ref m1, .ref m2, .int mf, .int (nI mcd), .ref m3, .ref m4, .ref m5, .ref m6, .int (nI mev), .ref m7, .ref m8, .ref m9, .ref m10, .ref m11, .ref m12, .ref m13, .int mwh, .int mps, .ref m14, .ref m15, .long mlr, .int (nI mlt), .int (nI mlm), .ref m16, .int mln, .ref m17])), (m7, .inl (cI, 30, .inl gtr)), (m9, .inl (cL, 30, .inr (.inl gtn))), (m14, .inl (cI, 8, .inl gch))] sz)) 0 0 (va_A [(m0, .inr (9, [.int mth, .int (nI mt), .ref m1, .ref m2, .int mf, .int (nI mcd), .ref m3, .ref m4, .ref m5, .ref m6, .int (nI mev), .ref m7, .ref m8, .ref m9, .ref m10, .ref m11, .ref m12, .ref m13, .int mwh, .int mps, .ref m14, .ref m15, .long mlr, .int (nI mlt), .int (nI mlm), .ref m16, .int mln, .ref m17])), (m7, .inl (cI, 30, .inl gtr)), (m9, .inl (cL, 30, .inr (.inl gtn))), (m14, .inl (cI, 8, .inl gch))] sz) := by
  refine Met.ofW (cc := prog_11_method_18_code) (maxL := 7) (ret := (some .boolean)) (by decide) rfl ?_
  intro p e s m args below meth c s₁ B hml hv
  obtain ⟨rfl, hsz, hP, hK, hD0, hN⟩ := hv
  have hx := B.exec
  have hb := B.bytes
  have hr := B.returns
  have ht : ∀ w ∈ wsA, w.before _ s = true := fun w h => atoms_spec (ws := (Cond.code y_Mo_isThere prog_11_method_18_code 7 (some .boolean) :: wsA)) B.pre w (List.mem_cons_of_mem _ h)
  have hown : s.vm.findClass "NetUnfolderModel" = some m.cls := findClass_of_methodNamed B.named
  have hlocks := B.notSynchronized
  subst hsz
  have hD := hD0.self (sz := s.heap.size)
  generalize hAe : va_A [(m0, .inr (9, [.int mth, .int (nI mt), .ref m1, .ref m2, .int mf, .int (nI mcd), .ref m3, .ref m4, .ref m5, .ref m6, .int (nI mev), .ref m7, .ref m8, .ref m9, .ref m10, .ref m11, .ref m12, .ref m13, .int mwh, .int mps, .ref m14, .ref m15, .long mlr, .int (nI mlt), .int (nI mlm), .ref m16, .int mln, .ref m17])), (m7, .inl (cI, 30, .inl gtr)), (m9, .inl (cL, 30, .inr (.inl gtn))), (m14, .inl (cI, 8, .inl gch))] s.heap.size = A at hD ⊢
  have hA : ∀ q : Nat, s.heap.size ≤ q → A q := fun q h => by rw [← hAe]; exact Or.inr h
  have hS : va_S A s.heap s.heap [] := va_S.rf
  have hl := lv_entry ([.ref m0, .int (nI k), .int (nI n)]) (n := 7) (Nat.le_of_ble_eq_true rfl)
  rw [lg_entry_eq]
  generalize (lg_sl ([.ref m0, .int (nI k), .int (nI n)]) ++ List.replicate (7 - (lg_sl ([.ref m0, .int (nI k), .int (nI n)])).length) Slot.unset).toArray = ls at hl ⊢
  replace hl : lv_has ls 7 [(0, .ref m0), (1, .int (nI k)), (2, .int (nI n))] := hl
  refine W_Q (fun Q hQ => ?_)
  refine lv_aload_n hx hb d_Mo_isThere_0 rfl (lv_at hl 0 rfl) ?_
  refine lv_iload_n hx hb d_Mo_isThere_1 rfl (lv_at hl 2 rfl) ?_
  have hPc := hP.sub (ws' := [(m0, .inr (9, [.int mth, .int (nI mt), .ref m1, .ref m2, .int mf, .int (nI mcd), .ref m3, .ref m4, .ref m5, .ref m6, .int (nI mev), .ref m7, .ref m8, .ref m9, .ref m10, .ref m11, .ref m12, .ref m13, .int mwh, .int mps, .ref m14, .ref m15, .long mlr, .int (nI mlt), .int (nI mlm), .ref m16, .int mln, .ref m17])), (m14, .inl (cI, 8, .inl gch))]) [0, 3] rfl
  have hDc := hD.sub (ws' := [(m0, .inr (9, [.int mth, .int (nI mt), .ref m1, .ref m2, .int mf, .int (nI mcd), .ref m3, .ref m4, .ref m5, .ref m6, .int (nI mev), .ref m7, .ref m8, .ref m9, .ref m10, .ref m11, .ref m12, .ref m13, .int mwh, .int mps, .ref m14, .ref m15, .long mlr, .int (nI mlt), .int (nI mlm), .ref m16, .int mln, .ref m17])), (m14, .inl (cI, 8, .inl gch))]) [0, 3] (by decide) rfl
  have hFc := va_free (wc := [(m0, .inr (9, [.int mth, .int (nI mt), .ref m1, .ref m2, .int mf, .int (nI mcd), .ref m3, .ref m4, .ref m5, .ref m6, .int (nI mev), .ref m7, .ref m8, .ref m9, .ref m10, .ref m11, .ref m12, .ref m13, .int mwh, .int mps, .ref m14, .ref m15, .long mlr, .int (nI mlt), .int (nI mlm), .ref m16, .int mln, .ref m17])), (m14, .inl (cI, 8, .inl gch))]) hD hS hA [0, 3] rfl
  refine va_calll (va_runV (C := "NetUnfolderModel") (As := [.int (nI n)]) (rest := []) ⟨hx, hb, hml, hown, ht⟩ (e_Mo_setOf l dC dI cI cL cZ _ m0 m1 m2 m3 m4 m5 m6 m7 m8 m9 m10 m11 m12 m13 m14 m15 m16 m17 mth mt mf mcd mev mwh mps mlr mlt mlm mln gch n L (by first | assumption | omega | trivial | exact AllLt.zero | exact AllN.zero | exact AllM.zero | exact Or.inl rfl | exact Or.inr rfl) (by first | assumption | omega | trivial | exact AllLt.zero | exact AllN.zero | exact AllM.zero | exact Or.inl rfl | exact Or.inr rfl) (by first | assumption | omega | trivial | exact AllLt.zero | exact AllN.zero | exact AllM.zero | exact Or.inl rfl | exact Or.inr rfl)) (cwV 1 ht (good_V wd_4_151 wd_4_153 ws_Mo_setOf wd_1_10 wd_4_154) rfl rfl rfl (by decide +kernel) ⟨Nat.le_of_ble_eq_true rfl, Nat.le_of_ble_eq_true rfl⟩) ⟨fun a U g mk q => by obtain ⟨q0, q1, qP, qK, qD, qN⟩ := q; exact ⟨q0, q1, qP, va_K.moved (u := U) (U := U.calling g mk a) (Vm.Alike.refl U.vm) qK, qD, NwA.same (u := U) rfl qN⟩, (va_recv (q0 := 0) (ci := 9) hK hP rfl rfl), fun U hU hW => ⟨rfl, by rw [hU], by rw [hU]; exact hPc, va_K.moved hW.alike hK, hDc.weaken (fun _ _ _ _ => trivial), NwA.warm hW hN⟩⟩ rfl rfl hl.1 rfl (lv_room (Nat.le_of_ble_eq_true rfl)) d_Mo_isThere_2 ⟨Nat.le_of_ble_eq_true rfl, Nat.le_of_ble_eq_true rfl⟩) hS (fun q _ h => hFc q h) hFc (fun r3 u9 t9 H1 locs ht9 hvm hw2 hB hz1 hk1 hSn => ?_)
  obtain ⟨hP1, hD1⟩ := hB
  rw [ht9] at hP1
  obtain ⟨hPn, hDn⟩ := va_join (wr := [(m7, .inl (cI, 30, .inl gtr)), (m9, .inl (cL, 30, .inr (.inl gtn)))]) (w1 := [(m0, .inr (9, [.int mth, .int (nI mt), .ref m1, .ref m2, .int mf, .int (nI mcd), .ref m3, .ref m4, .ref m5, .ref m6, .int (nI mev), .ref m7, .ref m8, .ref m9, .ref m10, .ref m11, .ref m12, .ref m13, .int mwh, .int mps, .ref m14, .ref m15, .long mlr, .int (nI mlt), .int (nI mlm), .ref m16, .int mln, .ref m17])), (m14, .inl (cI, 8, .inl gch))]) hP hD [0, 3] [1, 2] rfl rfl (by decide) (by decide) hk1 hFc hP1 hD1
  replace hP : va_P (dC, dI) clA [(m7, .inl (cI, 30, .inl gtr)), (m9, .inl (cL, 30, .inr (.inl gtn))), (m0, .inr (9, [.int mth, .int (nI mt), .ref m1, .ref m2, .int mf, .int (nI mcd), .ref m3, .ref m4, .ref m5, .ref m6, .int (nI mev), .ref m7, .ref m8, .ref m9, .ref m10, .ref m11, .ref m12, .ref m13, .int mwh, .int mps, .ref m14, .ref m15, .long mlr, .int (nI mlt), .int (nI mlm), .ref m16, .int mln, .ref m17])), (m14, .inl (cI, 8, .inl gch))] H1 := hPn
  replace hD : va_D A [(m7, .inl (cI, 30, .inl gtr)), (m9, .inl (cL, 30, .inr (.inl gtn))), (m0, .inr (9, [.int mth, .int (nI mt), .ref m1, .ref m2, .int mf, .int (nI mcd), .ref m3, .ref m4, .ref m5, .ref m6, .int (nI mev), .ref m7, .ref m8, .ref m9, .ref m10, .ref m11, .ref m12, .ref m13, .int mwh, .int mps, .ref m14, .ref m15, .long mlr, .int (nI mlt), .int (nI mlm), .ref m16, .int mln, .ref m17])), (m14, .inl (cI, 8, .inl gch))] := hDn
  replace hS := hSn
  clear hPn hDn hSn
  clear hPc hDc hFc hP1 hD1 hk1 hz1 ht9 hvm
  refine W.cs (cells' := 0) (slots' := 0) rfl rfl ?_
  have hr4 := hw2
  have hset := hr4
  refine lv_lstore_n (lv' := [(3, .long r3), (0, .ref m0), (1, .int (nI k)), (2, .int (nI n))]) hx hb d_Mo_isThere_5 rfl hl (by decide) rfl (fun ls hln => ?_)
  replace hl : lv_has ls 7 [(3, .long r3), (0, .ref m0), (1, .int (nI k)), (2, .int (nI n))] := hln
  clear hln
  refine lv_iconst (v := 0) hx hb d_Mo_isThere_6 (by decide) ?_
  refine lv_istore (lv' := [(5, .int 0), (3, .long r3), (0, .ref m0), (1, .int (nI k)), (2, .int (nI n))]) hx hb d_Mo_isThere_7 hl (by decide) rfl (fun ls hln => ?_)
  replace hl : lv_has ls 7 [(5, .int 0), (3, .long r3), (0, .ref m0), (1, .int (nI k)), (2, .int (nI n))] := hln
  clear hln
  refine lv_iconst (v := 0) hx hb d_Mo_isThere_9 (by decide) ?_
  refine lv_istore (lv' := [(6, .int 0), (5, .int 0), (3, .long r3), (0, .ref m0), (1, .int (nI k)), (2, .int (nI n))]) hx hb d_Mo_isThere_10 hl (by decide) rfl (fun ls hln => ?_)
  replace hl : lv_has ls 7 [(6, .int 0), (5, .int 0), (3, .long r3), (0, .ref m0), (1, .int (nI k)), (2, .int (nI n))] := hln
  clear hln
  have hloop5 : ∀ (n12 : Nat) (v : Int32) (i : Nat) (v3 : Int64) (hi : i ≤ mev) (hv3 : B64 v3 (fun f => f ∈ L)) (hv : (v = 1 ∧ (∃ a, a < i ∧ (tr a = k ∧ ∀ c, tk a c ↔ c ∈ L))) ∨ (v = 0 ∧ ¬ (∃ a, a < i ∧ (tr a = k ∧ ∀ c, tk a c ↔ c ∈ L)))) (H : Heap) (locs : List Loc) (ls : Array Slot) (hl : lv_has ls 7 [(0, .ref m0), (1, .int (nI k)), (2, .int (nI n)), (3, .long v3), (5, .int v), (6, .int (nI i))]) (hP : va_P (dC, dI) clA [(m7, .inl (cI, 30, .inl gtr)), (m9, .inl (cL, 30, .inr (.inl gtn))), (m0, .inr (9, [.int mth, .int (nI mt), .ref m1, .ref m2, .int mf, .int (nI mcd), .ref m3, .ref m4, .ref m5, .ref m6, .int (nI mev), .ref m7, .ref m8, .ref m9, .ref m10, .ref m11, .ref m12, .ref m13, .int mwh, .int mps, .ref m14, .ref m15, .long mlr, .int (nI mlt), .int (nI mlm), .ref m16, .int mln, .ref m17])), (m14, .inl (cI, 8, .inl gch))] H) (hD : va_D A [(m7, .inl (cI, 30, .inl gtr)), (m9, .inl (cL, 30, .inr (.inl gtn))), (m0, .inr (9, [.int mth, .int (nI mt), .ref m1, .ref m2, .int mf, .int (nI mcd), .ref m3, .ref m4, .ref m5, .ref m6, .int (nI mev), .ref m7, .ref m8, .ref m9, .ref m10, .ref m11, .ref m12, .ref m13, .int mwh, .int mps, .ref m14, .ref m15, .long mlr, .int (nI mlt), .int (nI mlm), .ref m16, .int mln, .ref m17])), (m14, .inl (cI, 8, .inl gch))]) (hS : va_S A s.heap H locs) (hm12 : mev - i < n12), W p l e (headSpec (Cond.code y_Mo_isThere prog_11_method_18_code 7 (some .boolean) :: wsA) { frames := 1, cells := 0, slots := 0, locals := 24 }).room s m ([.ref m0, .int (nI k), .int (nI n)] : List Value).toArray below meth c H locs 0 0 Q (F0 m 12 ls []) := by
    clear hl hP hD hS
    intro n12
    induction n12 with
    | zero => intro v i v3 hi hv3 hv H locs ls hl hP hD hS hm; exact absurd hm (Nat.not_lt_zero _)
    | succ n12 hloop5_ih =>
      intro v i v3 hi hv3 hv H locs ls hl hP hD hS hm12
      refine lv_iload hx hb d_Mo_isThere_12 (lv_at hl 5 rfl) ?_
      refine lv_aload_n hx hb d_Mo_isThere_14 rfl (lv_at hl 0 rfl) ?_
      refine va_get (D := (dC, dI)) (ci := 9) (v := .int (nI mev)) (C := "NetUnfolderModel") (T := T_Mo) (N := 28) hx hb ht in_Mo hown hK hP 2 rfl rfl 10 (by decide) (ht _ wd_4_10) (fun _ h9 => h9) rfl d_Mo_isThere_15 ?_
      refine lv_icmp_ge (tgt := 62) hx hb d_Mo_isThere_18 (by decide) (fun hb6 => ?_) (fun hb6 => ?_)
      · skip
        replace hb6 := cv_le (a := mev) (b := i) (by omega) (by omega) hb6
        have e9 : i = mev := by omega
        have h01 : v = 0 ∨ v = 1 := hv.elim (fun q => Or.inr q.1) (fun q => Or.inl q.1)
        refine lv_iload hx hb d_Mo_isThere_62 (lv_at hl 4 rfl) ?_
        have hP9 := hP.sub (ws' := [(m0, .inr (9, [.int mth, .int (nI mt), .ref m1, .ref m2, .int mf, .int (nI mcd), .ref m3, .ref m4, .ref m5, .ref m6, .int (nI mev), .ref m7, .ref m8, .ref m9, .ref m10, .ref m11, .ref m12, .ref m13, .int mwh, .int mps, .ref m14, .ref m15, .long mlr, .int (nI mlt), .int (nI mlm), .ref m16, .int mln, .ref m17])), (m7, .inl (cI, 30, .inl gtr)), (m9, .inl (cL, 30, .inr (.inl gtn))), (m14, .inl (cI, 8, .inl gch))]) [2, 0, 1, 3] rfl
        have hD9 := hD.sub (ws' := [(m0, .inr (9, [.int mth, .int (nI mt), .ref m1, .ref m2, .int mf, .int (nI mcd), .ref m3, .ref m4, .ref m5, .ref m6, .int (nI mev), .ref m7, .ref m8, .ref m9, .ref m10, .ref m11, .ref m12, .ref m13, .int mwh, .int mps, .ref m14, .ref m15, .long mlr, .int (nI mlt), .int (nI mlm), .ref m16, .int mln, .ref m17])), (m7, .inl (cI, 30, .inl gtr)), (m9, .inl (cL, 30, .inr (.inl gtn))), (m14, .inl (cI, 8, .inl gch))]) [2, 0, 1, 3] (by decide) rfl
        subst hQ
        exact W.zret (v := v) hx hb hr (bz_nar (by assumption)) (fun t9 ht9 hW => ⟨⟨v, (), rfl, (e9 ▸ hv), by rw [ht9]; exact hP9, hD9⟩, hS.F ht9⟩) hS.2.2 d_Mo_isThere_64
      · skip
        replace hb6 := cv_nle (a := mev) (b := i) (by omega) (by omega) hb6
        refine lv_iload hx hb d_Mo_isThere_21 (lv_at hl 4 rfl) ?_
        refine lv_if_ne (tgt := 49) hx hb d_Mo_isThere_23 (by decide) (fun hb7 => ?_) (fun hb7 => ?_)
        · skip
          refine lv_iconst (v := 1) hx hb d_Mo_isThere_49 (by decide) ?_
          refine lv_goto (tgt := 54) hx hb d_Mo_isThere_50 (by decide) ?_
          refine lv_istore (lv' := [(5, .int 1), (0, .ref m0), (1, .int (nI k)), (2, .int (nI n)), (3, .long v3), (6, .int (nI i))]) hx hb d_Mo_isThere_54 hl (by decide) rfl (fun ls hln => ?_)
          replace hl : lv_has ls 7 [(5, .int 1), (0, .ref m0), (1, .int (nI k)), (2, .int (nI n)), (3, .long v3), (6, .int (nI i))] := hln
          clear hln
          refine lv_iinc (k := 5) (v := nI (i + 1)) (lv' := [(6, .int (nI (i + 1))), (5, .int 1), (0, .ref m0), (1, .int (nI k)), (2, .int (nI n)), (3, .long v3)]) hx hb d_Mo_isThere_56 hl rfl (nI_1 _) (by decide) rfl (fun ls hln => ?_)
          replace hl : lv_has ls 7 [(6, .int (nI (i + 1))), (5, .int 1), (0, .ref m0), (1, .int (nI k)), (2, .int (nI n)), (3, .long v3)] := hln
          clear hln
          refine lv_goto (tgt := 12) hx hb d_Mo_isThere_59 (by decide) ?_
          exact hloop5_ih 1 (i + 1) v3 (by first | assumption | omega | trivial | exact AllLt.zero | exact AllN.zero | exact AllM.zero | exact Or.inl rfl | exact Or.inr rfl) hv3 (Or.inl ⟨rfl, th_up (hv.resolve_right (fun q => hb7 q.1)).2⟩) _ _ ls (lv_sub hl [2, 3, 4, 5, 1, 0] rfl) (hP.sub [0, 1, 2, 3] rfl) (hD.sub [0, 1, 2, 3] (by decide) rfl) hS (by omega)
        · skip
          refine lv_aload_n hx hb d_Mo_isThere_26 rfl (lv_at hl 0 rfl) ?_
          refine va_get (D := (dC, dI)) (ci := 9) (v := .ref m7) (C := "NetUnfolderModel") (T := T_Mo) (N := 28) hx hb ht in_Mo hown hK hP 2 rfl rfl 11 (by decide) (ht _ wd_4_11) (fun _ h9 => h9) rfl d_Mo_isThere_27 ?_
          refine lv_iload hx hb d_Mo_isThere_30 (lv_at hl 5 rfl) ?_
          refine na_iald (k := i) hx hb hK hP 0 0 rfl rfl (by omega) (by decide) d_Mo_isThere_32 ?_
          refine ci_i (y := nI (tr i)) (hTra i (by omega)).1 ?_
          have htr8 := (hTra i (by omega)).2
          refine lv_iload_n hx hb d_Mo_isThere_33 rfl (lv_at hl 1 rfl) ?_
          refine lv_icmp_ne (tgt := 53) hx hb d_Mo_isThere_34 (by decide) (fun hb8 => ?_) (fun hb8 => ?_)
          · skip
            replace hb8 := cv_ne (a := tr i) (b := k) (by omega) (by omega) hb8
            refine lv_iconst (v := 0) hx hb d_Mo_isThere_53 (by decide) ?_
            refine lv_istore (lv' := [(5, .int 0), (0, .ref m0), (1, .int (nI k)), (2, .int (nI n)), (3, .long v3), (6, .int (nI i))]) hx hb d_Mo_isThere_54 hl (by decide) rfl (fun ls hln => ?_)
            replace hl : lv_has ls 7 [(5, .int 0), (0, .ref m0), (1, .int (nI k)), (2, .int (nI n)), (3, .long v3), (6, .int (nI i))] := hln
            clear hln
            refine lv_iinc (k := 5) (v := nI (i + 1)) (lv' := [(6, .int (nI (i + 1))), (5, .int 0), (0, .ref m0), (1, .int (nI k)), (2, .int (nI n)), (3, .long v3)]) hx hb d_Mo_isThere_56 hl rfl (nI_1 _) (by decide) rfl (fun ls hln => ?_)
            replace hl : lv_has ls 7 [(6, .int (nI (i + 1))), (5, .int 0), (0, .ref m0), (1, .int (nI k)), (2, .int (nI n)), (3, .long v3)] := hln
            clear hln
            refine lv_goto (tgt := 12) hx hb d_Mo_isThere_59 (by decide) ?_
            exact hloop5_ih 0 (i + 1) v3 (by first | assumption | omega | trivial | exact AllLt.zero | exact AllN.zero | exact AllM.zero | exact Or.inl rfl | exact Or.inr rfl) hv3 (Or.inr ⟨rfl, th_no (hv.resolve_left (fun q => by rw [hb7] at q; exact absurd q.1 (by decide))).2 (fun q => hb8 q.1)⟩) _ _ ls (lv_sub hl [2, 3, 4, 5, 1, 0] rfl) (hP.sub [0, 1, 2, 3] rfl) (hD.sub [0, 1, 2, 3] (by decide) rfl) hS (by omega)
          · skip
            replace hb8 := cv_eq (a := tr i) (b := k) (by omega) (by omega) hb8
            refine lv_aload_n hx hb d_Mo_isThere_37 rfl (lv_at hl 0 rfl) ?_
            refine va_get (D := (dC, dI)) (ci := 9) (v := .ref m9) (C := "NetUnfolderModel") (T := T_Mo) (N := 28) hx hb ht in_Mo hown hK hP 2 rfl rfl 13 (by decide) (ht _ wd_4_13) (fun _ h9 => h9) rfl d_Mo_isThere_38 ?_
            refine lv_iload hx hb d_Mo_isThere_41 (lv_at hl 5 rfl) ?_
            refine na_lald (k := i) hx hb hK hP 1 1 rfl rfl (by omega) (by decide) d_Mo_isThere_43 ?_
            refine lv_lload_n hx hb d_Mo_isThere_44 rfl (lv_at hl 3 rfl) ?_
            refine W.lcmp hx hb d_Mo_isThere_45 ?_
            refine lv_if_ne (tgt := 53) hx hb d_Mo_isThere_46 (by decide) (fun hb9 => ?_) (fun hb9 => ?_)
            · skip
              refine lv_iconst (v := 0) hx hb d_Mo_isThere_53 (by decide) ?_
              refine lv_istore (lv' := [(5, .int 0), (0, .ref m0), (1, .int (nI k)), (2, .int (nI n)), (3, .long v3), (6, .int (nI i))]) hx hb d_Mo_isThere_54 hl (by decide) rfl (fun ls hln => ?_)
              replace hl : lv_has ls 7 [(5, .int 0), (0, .ref m0), (1, .int (nI k)), (2, .int (nI n)), (3, .long v3), (6, .int (nI i))] := hln
              clear hln
              refine lv_iinc (k := 5) (v := nI (i + 1)) (lv' := [(6, .int (nI (i + 1))), (5, .int 0), (0, .ref m0), (1, .int (nI k)), (2, .int (nI n)), (3, .long v3)]) hx hb d_Mo_isThere_56 hl rfl (nI_1 _) (by decide) rfl (fun ls hln => ?_)
              replace hl : lv_has ls 7 [(6, .int (nI (i + 1))), (5, .int 0), (0, .ref m0), (1, .int (nI k)), (2, .int (nI n)), (3, .long v3)] := hln
              clear hln
              refine lv_goto (tgt := 12) hx hb d_Mo_isThere_59 (by decide) ?_
              exact hloop5_ih 0 (i + 1) v3 (by first | assumption | omega | trivial | exact AllLt.zero | exact AllN.zero | exact AllM.zero | exact Or.inl rfl | exact Or.inr rfl) hv3 (Or.inr ⟨rfl, th_no (hv.resolve_left (fun q => by rw [hb7] at q; exact absurd q.1 (by decide))).2 (fun q => hb9 ((lg_cmp_eq _ _).mpr (((hTn i (by omega)).eqv hv3).mpr q.2)))⟩) _ _ ls (lv_sub hl [2, 3, 4, 5, 1, 0] rfl) (hP.sub [0, 1, 2, 3] rfl) (hD.sub [0, 1, 2, 3] (by decide) rfl) hS (by omega)
            · skip
              refine lv_iconst (v := 1) hx hb d_Mo_isThere_49 (by decide) ?_
              refine lv_goto (tgt := 54) hx hb d_Mo_isThere_50 (by decide) ?_
              refine lv_istore (lv' := [(5, .int 1), (0, .ref m0), (1, .int (nI k)), (2, .int (nI n)), (3, .long v3), (6, .int (nI i))]) hx hb d_Mo_isThere_54 hl (by decide) rfl (fun ls hln => ?_)
              replace hl : lv_has ls 7 [(5, .int 1), (0, .ref m0), (1, .int (nI k)), (2, .int (nI n)), (3, .long v3), (6, .int (nI i))] := hln
              clear hln
              refine lv_iinc (k := 5) (v := nI (i + 1)) (lv' := [(6, .int (nI (i + 1))), (5, .int 1), (0, .ref m0), (1, .int (nI k)), (2, .int (nI n)), (3, .long v3)]) hx hb d_Mo_isThere_56 hl rfl (nI_1 _) (by decide) rfl (fun ls hln => ?_)
              replace hl : lv_has ls 7 [(6, .int (nI (i + 1))), (5, .int 1), (0, .ref m0), (1, .int (nI k)), (2, .int (nI n)), (3, .long v3)] := hln
              clear hln
              refine lv_goto (tgt := 12) hx hb d_Mo_isThere_59 (by decide) ?_
              exact hloop5_ih 1 (i + 1) v3 (by first | assumption | omega | trivial | exact AllLt.zero | exact AllN.zero | exact AllM.zero | exact Or.inl rfl | exact Or.inr rfl) hv3 (Or.inl ⟨rfl, i, by omega, by omega, ((hTn i (by omega)).eqv hv3).mp ((lg_cmp_eq _ _).mp hb9)⟩) _ _ ls (lv_sub hl [2, 3, 4, 5, 1, 0] rfl) (hP.sub [0, 1, 2, 3] rfl) (hD.sub [0, 1, 2, 3] (by decide) rfl) hS (by omega)
  exact hloop5 ((mev - 0) + 1) 0 0 r3 (by first | assumption | omega | trivial | exact AllLt.zero | exact AllN.zero | exact AllM.zero | exact Or.inl rfl | exact Or.inr rfl) hset (Or.inr ⟨rfl, fun ⟨a, ha, _⟩ => absurd ha (Nat.not_lt_zero a)⟩) _ _ ls (lv_sub hl [3, 4, 5, 2, 1, 0] rfl) hP hD hS (Nat.lt_succ_self _)

set_option maxHeartbeats 4000000 in
set_option maxRecDepth 100000 in
theorem e_Mo_fire (l : Launch) (dC : Nat → ClassId) (dI : Nat → Nat → Nat) (cI cL cZ : ClassId) (sz : Nat) (x : Int32) (y : Int32) (z : Int32) : Met l y_Mo_fire (Cond.code y_Mo_fire prog_11_method_12_code 3 (some .int) :: wsA) { frames := 0, cells := 0, slots := 0, locals := 0 } (va_Pc [.int x, .int y, .int z] (fun U => U.heap.size = sz ∧ va_P (dC, dI) clA [] U.heap ∧ va_K (dC, dI) clA [(cI, .int), (cL, .long), (cZ, .boolean)] U ∧ va_D (fun _ => True) [] ∧ NwA U)) (va_Qi (fun r (_ : Unit) => r = (x &&& (y ^^^ (-1))) ||| z) (fun _ t => va_P (dC, dI) clA [] t.heap ∧ va_D (va_A [] sz) []) (va_A [] sz)) 0 0 (va_A [] sz) := by
  refine Met.ofW (cc := prog_11_method_12_code) (maxL := 3) (ret := (some .int)) (by decide) rfl ?_
  intro p e s m args below meth c s₁ B hml hv
  obtain ⟨rfl, hsz, hP, hK, hD0, hN⟩ := hv
  have hx := B.exec
  have hb := B.bytes
  have hr := B.returns
  have ht : ∀ w ∈ wsA, w.before _ s = true := fun w h => atoms_spec (ws := (Cond.code y_Mo_fire prog_11_method_12_code 3 (some .int) :: wsA)) B.pre w (List.mem_cons_of_mem _ h)
  have hown : s.vm.findClass "NetUnfolderModel" = some m.cls := findClass_of_methodNamed B.named
  have hlocks := B.notSynchronized
  subst hsz
  have hD := hD0.self (sz := s.heap.size)
  generalize hAe : va_A [] s.heap.size = A at hD ⊢
  have hA : ∀ q : Nat, s.heap.size ≤ q → A q := fun q h => by rw [← hAe]; exact Or.inr h
  have hS : va_S A s.heap s.heap [] := va_S.rf
  have hl := lv_entry ([.int x, .int y, .int z]) (n := 3) (Nat.le_of_ble_eq_true rfl)
  rw [lg_entry_eq]
  generalize (lg_sl ([.int x, .int y, .int z]) ++ List.replicate (3 - (lg_sl ([.int x, .int y, .int z])).length) Slot.unset).toArray = ls at hl ⊢
  replace hl : lv_has ls 3 [(0, .int x), (1, .int y), (2, .int z)] := hl
  refine W_Q (fun Q hQ => ?_)
  refine lv_iload_n hx hb d_Mo_fire_0 rfl (lv_at hl 0 rfl) ?_
  refine lv_iload_n hx hb d_Mo_fire_1 rfl (lv_at hl 1 rfl) ?_
  refine lv_iconst (v := (-1)) hx hb d_Mo_fire_2 (by decide) ?_
  refine lv_ixor hx hb d_Mo_fire_3 ?_
  refine lv_iand hx hb d_Mo_fire_4 ?_
  refine lv_iload_n hx hb d_Mo_fire_5 rfl (lv_at hl 2 rfl) ?_
  refine lv_ior hx hb d_Mo_fire_6 ?_
  have hP9 := hP.sub (ws' := []) [] rfl
  have hD9 := hD.sub (ws' := []) [] (by decide) rfl
  subst hQ
  exact W.iret (v := (x &&& (y ^^^ (-1))) ||| z) hx hb hr (fun t9 ht9 hW => ⟨⟨(x &&& (y ^^^ (-1))) ||| z, (), rfl, rfl, by rw [ht9]; exact hP9, hD9⟩, hS.F ht9⟩) hS.2.2 d_Mo_fire_7
