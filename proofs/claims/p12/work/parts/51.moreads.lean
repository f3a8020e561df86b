set_option maxHeartbeats 4000000 in
set_option maxRecDepth 100000 in
theorem c_Mo_way (l : Launch) (dC : Nat → ClassId) (dI : Nat → Nat → Nat) (cI cL cZ : ClassId) (sz : Nat) (m0 : Nat) (m1 : Nat) (m2 : Nat) (m3 : Nat) (m4 : Nat) (m5 : Nat) (m6 : Nat) (m7 : Nat) (m8 : Nat) (m9 : Nat) (m10 : Nat) (m11 : Nat) (m12 : Nat) (m13 : Nat) (m14 : Nat) (m15 : Nat) (m16 : Nat) (m17 : Nat) (mth : Int32) (mt : Nat) (mf : Int32) (mcd : Nat) (mev : Nat) (mwh : Int32) (mps : Int32) (mlr : Int64) (mlt : Nat) (mlm : Nat) (mln : Int32) (gwy : Nat → Int32) (x : Int32) (hmy : MlI mln) : Met l y_Mo_way (Cond.code y_Mo_way prog_11_method_35_code 2 (some .int) :: wsA) { frames := 1, cells := 0, slots := 0, locals := 22 } (va_Pc [.ref m0, .int x] (fun U => U.heap.size = sz ∧ va_P (dC, dI) clA [(m0, .inr (9, [.int mth, .int (nI mt), .ref m1, .ref m2, .int mf, .int (nI mcd), .ref m3, .ref m4, .ref m5, .ref m6, .int (nI mev), .ref m7, .ref m8, .ref m9, .ref m10, .ref m11, .ref m12, .ref m13, .int mwh, .int mps, .ref m14, .ref m15, .long mlr, .int (nI mlt), .int (nI mlm), .ref m16, .int mln, .ref m17])), (m17, .inl (cI, 62, .inl gwy))] U.heap ∧ va_K (dC, dI) clA [(cI, .int), (cL, .long), (cZ, .boolean)] U ∧ va_D (fun _ => True) [(m0, .inr (9, [.int mth, .int (nI mt), .ref m1, .ref m2, .int mf, .int (nI mcd), .ref m3, .ref m4, .ref m5, .ref m6, .int (nI mev), .ref m7, .ref m8, .ref m9, .ref m10, .ref m11, .ref m12, .ref m13, .int mwh, .int mps, .ref m14, .ref m15, .long mlr, .int (nI mlt), .int (nI mlm), .ref m16, .int mln, .ref m17])), (m17, .inl (cI, 62, .inl gwy))] ∧ NwA U)) (va_Qi (fun r (_ : Unit) => True) (fun _ t => va_P (dC, dI) clA [(m0, .inr (9, [.int 0, .int (nI mt), .ref m1, .ref m2, .int mf, .int (nI mcd), .ref m3, .ref m4, .ref m5, .ref m6, .int (nI mev), .ref m7, .ref m8, .ref m9, .ref m10, .ref m11, .ref m12, .ref m13, .int mwh, .int mps, .ref m14, .ref m15, .long mlr, .int (nI mlt), .int (nI mlm), .ref m16, .int mln, .ref m17])), (m17, .inl (cI, 62, .inl gwy))] t.heap ∧ va_D (va_A [(m0, .inr (9, [.int mth, .int (nI mt), .ref m1, .ref m2, .int mf, .int (nI mcd), .ref m3, .ref m4, .ref m5, .ref m6, .int (nI mev), .ref m7, .ref m8, .ref m9, .ref m10, .ref m11, .ref m12, .ref m13, .int mwh, .int mps, .ref m14, .ref m15, .long mlr, .int (nI mlt), .int (nI mlm), .ref m16, .int mln, .ref m17])), (m17, .inl (cI, 62, .inl gwy))] sz) [(m0, .inr (9, [.int 0, .int (nI mt), .ref m1, .ref m2, .int mf, .int (nI mcd), .ref m3, .ref m4, .ref m5, .ref m6, .int (nI mev), .ref m7, .ref m8, .ref m9, .ref m10, .ref m11, .ref m12, .ref m13, .int mwh, .int mps, .ref m14, .ref m15, .long mlr, .int (nI mlt), .int (nI mlm), .ref m16, .int mln, .ref m17])), (m17, .inl (cI, 62, .inl gwy))]) (va_A [(m0, .inr (9, [.int mth, .int (nI mt), .ref m1, .ref m2, .int mf, .int (nI mcd), .ref m3, .ref m4, .ref m5, .ref m6, .int (nI mev), .ref m7, .ref m8, .ref m9, .ref m10, .ref m11, .ref m12, .ref m13, .int mwh, .int mps, .ref m14, .ref m15, .long mlr, .int (nI mlt), .int (nI mlm), .ref m16, .int mln, .ref m17])), (m17, .inl (cI, 62, .inl gwy))] sz)) 0 0 (va_A [(m0, .inr (9, [.int mth, .int (nI mt), .ref m1, .ref m2, .int mf, .int (nI mcd), .ref m3, .ref m4, .ref m5, .ref m6, .int (nI mev), .ref m7, .ref m8, .ref m9, .ref m10, .ref m11, .ref m12, .ref m13, .int mwh, .int mps, .ref m14, .ref m15, .long mlr, .int (nI mlt), .int (nI mlm), .ref m16, .int mln, .ref m17])), (m17, .inl (cI, 62, .inl gwy))] sz) := by
  refine Met.ofW (cc := prog_11_method_35_code) (maxL := 2) (ret := (some .int)) (by decide) rfl ?_
  intro p e s m args below meth c s₁ B hml hv
  obtain ⟨rfl, hsz, hP, hK, hD0, hN⟩ := hv
  have hx := B.exec
  have hb := B.bytes
  have hr := B.returns
  have ht : ∀ w ∈ wsA, w.before _ s = true := fun w h => atoms_spec (ws := (Cond.code y_Mo_way prog_11_method_35_code 2 (some .int) :: wsA)) B.pre w (List.mem_cons_of_mem _ h)
  have hown : s.vm.findClass "NetUnfolderModel" = some m.cls := findClass_of_methodNamed B.named
  have hlocks := B.notSynchronized
  subst hsz
  have hD := hD0.self (sz := s.heap.size)
  generalize hAe : va_A [(m0, .inr (9, [.int mth, .int (nI mt), .ref m1, .ref m2, .int mf, .int (nI mcd), .ref m3, .ref m4, .ref m5, .ref m6, .int (nI mev), .ref m7, .ref m8, .ref m9, .ref m10, .ref m11, .ref m12, .ref m13, .int mwh, .int mps, .ref m14, .ref m15, .long mlr, .int (nI mlt), .int (nI mlm), .ref m16, .int mln, .ref m17])), (m17, .inl (cI, 62, .inl gwy))] s.heap.size = A at hD ⊢
  have hA : ∀ q : Nat, s.heap.size ≤ q → A q := fun q h => by rw [← hAe]; exact Or.inr h
  have hS : va_S A s.heap s.heap [] := va_S.rf
  have hl := lv_entry ([.ref m0, .int x]) (n := 2) (Nat.le_of_ble_eq_true rfl)
  rw [lg_entry_eq]
  generalize (lg_sl ([.ref m0, .int x]) ++ List.replicate (2 - (lg_sl ([.ref m0, .int x])).length) Slot.unset).toArray = ls at hl ⊢
  replace hl : lv_has ls 2 [(0, .ref m0), (1, .int x)] := hl
  refine W_Q (fun Q hQ => ?_)
  refine lv_aload_n hx hb d_Mo_way_0 rfl (lv_at hl 0 rfl) ?_
  refine lv_iconst (v := 0) hx hb d_Mo_way_1 (by decide) ?_
  refine va_put (D := (dC, dI)) (ci := 9) (v := .int 0) (ty := .int) (C := "NetUnfolderModel") (T := T_Mo) (N := 28) hx hb ht in_Mo ty_Mo ok_Mo nm_Mo hown hK hP hD hS 0 rfl rfl 0 (by decide) (ht _ wd_4_0) (fun _ h9 => h9) rfl (by decide +kernel) rfl rfl (Nat.le_of_ble_eq_true rfl) d_Mo_way_2 (fun H1 locs hPn hDn hSn => ?_)
  replace hP : va_P (dC, dI) clA [(m0, .inr (9, [.int 0, .int (nI mt), .ref m1, .ref m2, .int mf, .int (nI mcd), .ref m3, .ref m4, .ref m5, .ref m6, .int (nI mev), .ref m7, .ref m8, .ref m9, .ref m10, .ref m11, .ref m12, .ref m13, .int mwh, .int mps, .ref m14, .ref m15, .long mlr, .int (nI mlt), .int (nI mlm), .ref m16, .int mln, .ref m17])), (m17, .inl (cI, 62, .inl gwy))] H1 := hPn
  replace hD : va_D A [(m0, .inr (9, [.int 0, .int (nI mt), .ref m1, .ref m2, .int mf, .int (nI mcd), .ref m3, .ref m4, .ref m5, .ref m6, .int (nI mev), .ref m7, .ref m8, .ref m9, .ref m10, .ref m11, .ref m12, .ref m13, .int mwh, .int mps, .ref m14, .ref m15, .long mlr, .int (nI mlt), .int (nI mlm), .ref m16, .int mln, .ref m17])), (m17, .inl (cI, 62, .inl gwy))] := hDn
  replace hS := hSn
  clear hPn hDn hSn
  refine lv_iload_n hx hb d_Mo_way_5 rfl (lv_at hl 1 rfl) ?_
  refine lv_iconst (v := 0) hx hb d_Mo_way_6 (by decide) ?_
  refine lv_aload_n hx hb d_Mo_way_7 rfl (lv_at hl 0 rfl) ?_
  refine va_get (D := (dC, dI)) (ci := 9) (v := .int mln) (C := "NetUnfolderModel") (T := T_Mo) (N := 28) hx hb ht in_Mo hown hK hP 0 rfl rfl 26 (by decide) (ht _ wd_4_26) (fun _ h9 => h9) rfl d_Mo_way_8 ?_
  refine lv_iconst (v := 1) hx hb d_Mo_way_11 (by decide) ?_
  refine lv_isub hx hb d_Mo_way_12 ?_
  have hPc : va_P (dC, dI) clA [] _ := pu_P (H := H1)
  have hDc : va_D (fun _ => True) [] := pu_D
  have hFc := pu_free hS hA
  refine va_calli (va_runS (As := [.int x, .int 0, .int (mln - 1)]) (rest := []) ⟨hx, hb, hml, hown, ht⟩ (c_Mo_outside l dC dI cI cL cZ _ x 0 (mln - 1) ) (va_cwS 3 ht (good_S wd_4_90 wd_4_91 wd_1_10 wd_4_92) rfl rfl rfl (by decide +kernel) ⟨Nat.le_of_ble_eq_true rfl, Nat.le_of_ble_eq_true rfl⟩) ⟨fun a U g mk q => by obtain ⟨q0, q1, qP, qK, qD, qN⟩ := q; exact ⟨q0, q1, qP, va_K.moved (u := U) (U := U.calling g mk a) (Vm.Alike.refl U.vm) qK, qD, NwA.same (u := U) rfl qN⟩, fun U hU hW => ⟨rfl, by rw [hU], by rw [hU]; exact hPc, va_K.moved hW.alike hK, hDc.weaken (fun _ _ _ _ => trivial), NwA.warm hW hN⟩⟩ rfl rfl hl.1 rfl (lv_room (Nat.le_of_ble_eq_true rfl)) d_Mo_way_13 ⟨Nat.le_of_ble_eq_true rfl, Nat.le_of_ble_eq_true rfl⟩) hS (fun q _ h => hFc q h) hFc (fun r4 u9 t9 H2 locs ht9 hvm hw3 hB hz1 hk1 hSn => ?_)
  replace hP : va_P (dC, dI) clA [(m0, .inr (9, [.int 0, .int (nI mt), .ref m1, .ref m2, .int mf, .int (nI mcd), .ref m3, .ref m4, .ref m5, .ref m6, .int (nI mev), .ref m7, .ref m8, .ref m9, .ref m10, .ref m11, .ref m12, .ref m13, .int mwh, .int mps, .ref m14, .ref m15, .long mlr, .int (nI mlt), .int (nI mlm), .ref m16, .int mln, .ref m17])), (m17, .inl (cI, 62, .inl gwy))] H2 := pu_keep hP hk1
  replace hS := hSn
  clear hSn hPc hDc hFc hk1 hz1 ht9 hvm hB
  refine W.cs (cells' := 0) (slots' := 0) rfl rfl ?_
  have hr5 := hw3
  refine lv_if_eq (tgt := 23) hx hb d_Mo_way_16 (by decide) (fun hb6 => ?_) (fun hb6 => ?_)
  · skip
    have ho8 := out_0 hr5 hb6
    obtain ⟨j7, j7_l, rfl⟩ := ix_way hmy ho8.1 ho8.2
    refine lv_aload_n hx hb d_Mo_way_23 rfl (lv_at hl 0 rfl) ?_
    refine va_get (D := (dC, dI)) (ci := 9) (v := .ref m17) (C := "NetUnfolderModel") (T := T_Mo) (N := 28) hx hb ht in_Mo hown hK hP 0 rfl rfl 27 (by decide) (ht _ wd_4_27) (fun _ h9 => h9) rfl d_Mo_way_24 ?_
    refine lv_iload_n hx hb d_Mo_way_27 rfl (lv_at hl 1 rfl) ?_
    refine na_iald (k := j7) hx hb hK hP 1 0 rfl rfl (by omega) (by decide) d_Mo_way_28 ?_
    have hP9 := hP.sub (ws' := [(m0, .inr (9, [.int 0, .int (nI mt), .ref m1, .ref m2, .int mf, .int (nI mcd), .ref m3, .ref m4, .ref m5, .ref m6, .int (nI mev), .ref m7, .ref m8, .ref m9, .ref m10, .ref m11, .ref m12, .ref m13, .int mwh, .int mps, .ref m14, .ref m15, .long mlr, .int (nI mlt), .int (nI mlm), .ref m16, .int mln, .ref m17])), (m17, .inl (cI, 62, .inl gwy))]) [0, 1] rfl
    have hD9 := hD.sub (ws' := [(m0, .inr (9, [.int 0, .int (nI mt), .ref m1, .ref m2, .int mf, .int (nI mcd), .ref m3, .ref m4, .ref m5, .ref m6, .int (nI mev), .ref m7, .ref m8, .ref m9, .ref m10, .ref m11, .ref m12, .ref m13, .int mwh, .int mps, .ref m14, .ref m15, .long mlr, .int (nI mlt), .int (nI mlm), .ref m16, .int mln, .ref m17])), (m17, .inl (cI, 62, .inl gwy))]) [0, 1] (by decide) rfl
    subst hQ
    exact W.iret (v := gwy j7) hx hb hr (fun t9 ht9 hW => ⟨⟨gwy j7, (), rfl, trivial, by rw [ht9]; exact hP9, hD9⟩, hS.F ht9⟩) hS.2.2 d_Mo_way_29
  · skip
    refine lv_iconst (v := (-1)) hx hb d_Mo_way_19 (by decide) ?_
    refine lv_goto (tgt := 29) hx hb d_Mo_way_20 (by decide) ?_
    have hP9 := hP.sub (ws' := [(m0, .inr (9, [.int 0, .int (nI mt), .ref m1, .ref m2, .int mf, .int (nI mcd), .ref m3, .ref m4, .ref m5, .ref m6, .int (nI mev), .ref m7, .ref m8, .ref m9, .ref m10, .ref m11, .ref m12, .ref m13, .int mwh, .int mps, .ref m14, .ref m15, .long mlr, .int (nI mlt), .int (nI mlm), .ref m16, .int mln, .ref m17])), (m17, .inl (cI, 62, .inl gwy))]) [0, 1] rfl
    have hD9 := hD.sub (ws' := [(m0, .inr (9, [.int 0, .int (nI mt), .ref m1, .ref m2, .int mf, .int (nI mcd), .ref m3, .ref m4, .ref m5, .ref m6, .int (nI mev), .ref m7, .ref m8, .ref m9, .ref m10, .ref m11, .ref m12, .ref m13, .int mwh, .int mps, .ref m14, .ref m15, .long mlr, .int (nI mlt), .int (nI mlm), .ref m16, .int mln, .ref m17])), (m17, .inl (cI, 62, .inl gwy))]) [0, 1] (by decide) rfl
    subst hQ
    exact W.iret (v := (-1)) hx hb hr (fun t9 ht9 hW => ⟨⟨(-1), (), rfl, trivial, by rw [ht9]; exact hP9, hD9⟩, hS.F ht9⟩) hS.2.2 d_Mo_way_29

set_option maxHeartbeats 4000000 in
set_option maxRecDepth 100000 in
theorem c_Mo_count (l : Launch) (dC : Nat → ClassId) (dI : Nat → Nat → Nat) (cI cL cZ : ClassId) (sz : Nat) (m0 : Nat) (m1 : Nat) (m2 : Nat) (m3 : Nat) (m4 : Nat) (m5 : Nat) (m6 : Nat) (m7 : Nat) (m8 : Nat) (m9 : Nat) (m10 : Nat) (m11 : Nat) (m12 : Nat) (m13 : Nat) (m14 : Nat) (m15 : Nat) (m16 : Nat) (m17 : Nat) (mth : Int32) (mt : Nat) (mf : Int32) (mcd : Nat) (mev : Nat) (mwh : Int32) (mps : Int32) (mlr : Int64) (mlt : Nat) (mlm : Nat) (mln : Int32) (gcu : Nat → Int32) (x : Int32) (hev : mev ≤ 30) : Met l y_Mo_count (Cond.code y_Mo_count prog_11_method_37_code 4 (some .int) :: wsA) { frames := 0, cells := 0, slots := 0, locals := 0 } (va_Pc [.ref m0, .int x] (fun U => U.heap.size = sz ∧ va_P (dC, dI) clA [(m0, .inr (9, [.int mth, .int (nI mt), .ref m1, .ref m2, .int mf, .int (nI mcd), .ref m3, .ref m4, .ref m5, .ref m6, .int (nI mev), .ref m7, .ref m8, .ref m9, .ref m10, .ref m11, .ref m12, .ref m13, .int mwh, .int mps, .ref m14, .ref m15, .long mlr, .int (nI mlt), .int (nI mlm), .ref m16, .int mln, .ref m17])), (m13, .inl (cZ, 30, .inl gcu))] U.heap ∧ va_K (dC, dI) clA [(cI, .int), (cL, .long), (cZ, .boolean)] U ∧ va_D (fun _ => True) [(m0, .inr (9, [.int mth, .int (nI mt), .ref m1, .ref m2, .int mf, .int (nI mcd), .ref m3, .ref m4, .ref m5, .ref m6, .int (nI mev), .ref m7, .ref m8, .ref m9, .ref m10, .ref m11, .ref m12, .ref m13, .int mwh, .int mps, .ref m14, .ref m15, .long mlr, .int (nI mlt), .int (nI mlm), .ref m16, .int mln, .ref m17])), (m13, .inl (cZ, 30, .inl gcu))] ∧ NwA U)) (va_Qi (fun r (_ : Unit) => True) (fun _ t => va_P (dC, dI) clA [(m0, .inr (9, [.int 0, .int (nI mt), .ref m1, .ref m2, .int mf, .int (nI mcd), .ref m3, .ref m4, .ref m5, .ref m6, .int (nI mev), .ref m7, .ref m8, .ref m9, .ref m10, .ref m11, .ref m12, .ref m13, .int mwh, .int mps, .ref m14, .ref m15, .long mlr, .int (nI mlt), .int (nI mlm), .ref m16, .int mln, .ref m17])), (m13, .inl (cZ, 30, .inl gcu))] t.heap ∧ va_D (va_A [(m0, .inr (9, [.int mth, .int (nI mt), .ref m1, .ref m2, .int mf, .int (nI mcd), .ref m3, .ref m4, .ref m5, .ref m6, .int (nI mev), .ref m7, .ref m8, .ref m9, .ref m10, .ref m11, .ref m12, .ref m13, .int mwh, .int mps, .ref m14, .ref m15, .long mlr, .int (nI mlt), .int (nI mlm), .ref m16, .int mln, .ref m17])), (m13, .inl (cZ, 30, .inl gcu))] sz) [(m0, .inr (9, [.int 0, .int (nI mt), .ref m1, .ref m2, .int mf, .int (nI mcd), .ref m3, .ref m4, .ref m5, .ref m6, .int (nI mev), .ref m7, .ref m8, .ref m9, .ref m10, .ref m11, .ref m12, .ref m13, .int mwh, .int mps, .ref m14, .ref m15, .long mlr, .int (nI mlt), .int (nI mlm), .ref m16, .int mln, .ref m17])), (m13, .inl (cZ, 30, .inl gcu))]) (va_A [(m0, .inr (9, [.int mth, .int (nI mt), .ref m1, .ref m2, .int mf, .int (nI mcd), .ref m3, .ref m4, .ref m5, .ref m6, .int (nI mev), .ref m7, .ref m8, .ref m9, .ref m10, .ref m11, .ref m12, .ref m13, .int mwh, .int mps, .ref m14, .ref m15, .long mlr, .int (nI mlt), .int (nI mlm), .ref m16, .int mln, .ref m17])), (m13, .inl (cZ, 30, .inl gcu))] sz)) 0 0 (va_A [(m0, .inr (9, [.int mth, .int (nI mt), .ref m1, .ref m2, .int mf, .int (nI mcd), .ref m3, .ref m4, .ref m5, .ref m6, .int (nI mev), .ref m7, .ref m8, .ref m9, .ref m10, .ref m11, .ref m12, .ref m13, .int mwh, .int mps, .ref m14, .ref m15, .long mlr, .int (nI mlt), .int (nI mlm), .ref m16, .int mln, .ref m17])), (m13, .inl (cZ, 30, .inl gcu))] sz) := by
  refine Met.ofW (cc := prog_11_method_37_code) (maxL := 4) (ret := (some .int)) (by decide) rfl ?_
  intro p e s m args below meth c s₁ B hml hv
  obtain ⟨rfl, hsz, hP, hK, hD0, hN⟩ := hv
  have hx := B.exec
  have hb := B.bytes
  have hr := B.returns
  have ht : ∀ w ∈ wsA, w.before _ s = true := fun w h => atoms_spec (ws := (Cond.code y_Mo_count prog_11_method_37_code 4 (some .int) :: wsA)) B.pre w (List.mem_cons_of_mem _ h)
  have hown : s.vm.findClass "NetUnfolderModel" = some m.cls := findClass_of_methodNamed B.named
  have hlocks := B.notSynchronized
  subst hsz
  have hD := hD0.self (sz := s.heap.size)
  generalize hAe : va_A [(m0, .inr (9, [.int mth, .int (nI mt), .ref m1, .ref m2, .int mf, .int (nI mcd), .ref m3, .ref m4, .ref m5, .ref m6, .int (nI mev), .ref m7, .ref m8, .ref m9, .ref m10, .ref m11, .ref m12, .ref m13, .int mwh, .int mps, .ref m14, .ref m15, .long mlr, .int (nI mlt), .int (nI mlm), .ref m16, .int mln, .ref m17])), (m13, .inl (cZ, 30, .inl gcu))] s.heap.size = A at hD ⊢
  have hA : ∀ q : Nat, s.heap.size ≤ q → A q := fun q h => by rw [← hAe]; exact Or.inr h
  have hS : va_S A s.heap s.heap [] := va_S.rf
  have hl := lv_entry ([.ref m0, .int x]) (n := 4) (Nat.le_of_ble_eq_true rfl)
  rw [lg_entry_eq]
  generalize (lg_sl ([.ref m0, .int x]) ++ List.replicate (4 - (lg_sl ([.ref m0, .int x])).length) Slot.unset).toArray = ls at hl ⊢
  replace hl : lv_has ls 4 [(0, .ref m0), (1, .int x)] := hl
  refine W_Q (fun Q hQ => ?_)
  refine lv_aload_n hx hb d_Mo_count_0 rfl (lv_at hl 0 rfl) ?_
  refine lv_iconst (v := 0) hx hb d_Mo_count_1 (by decide) ?_
  refine va_put (D := (dC, dI)) (ci := 9) (v := .int 0) (ty := .int) (C := "NetUnfolderModel") (T := T_Mo) (N := 28) hx hb ht in_Mo ty_Mo ok_Mo nm_Mo hown hK hP hD hS 0 rfl rfl 0 (by decide) (ht _ wd_4_0) (fun _ h9 => h9) rfl (by decide +kernel) rfl rfl (Nat.le_of_ble_eq_true rfl) d_Mo_count_2 (fun H1 locs hPn hDn hSn => ?_)
  replace hP : va_P (dC, dI) clA [(m0, .inr (9, [.int 0, .int (nI mt), .ref m1, .ref m2, .int mf, .int (nI mcd), .ref m3, .ref m4, .ref m5, .ref m6, .int (nI mev), .ref m7, .ref m8, .ref m9, .ref m10, .ref m11, .ref m12, .ref m13, .int mwh, .int mps, .ref m14, .ref m15, .long mlr, .int (nI mlt), .int (nI mlm), .ref m16, .int mln, .ref m17])), (m13, .inl (cZ, 30, .inl gcu))] H1 := hPn
  replace hD : va_D A [(m0, .inr (9, [.int 0, .int (nI mt), .ref m1, .ref m2, .int mf, .int (nI mcd), .ref m3, .ref m4, .ref m5, .ref m6, .int (nI mev), .ref m7, .ref m8, .ref m9, .ref m10, .ref m11, .ref m12, .ref m13, .int mwh, .int mps, .ref m14, .ref m15, .long mlr, .int (nI mlt), .int (nI mlm), .ref m16, .int mln, .ref m17])), (m13, .inl (cZ, 30, .inl gcu))] := hDn
  replace hS := hSn
  clear hPn hDn hSn
  refine lv_iconst (v := 0) hx hb d_Mo_count_5 (by decide) ?_
  refine lv_istore_n (lv' := [(2, .int 0), (0, .ref m0), (1, .int x)]) hx hb d_Mo_count_6 rfl hl (by decide) rfl (fun ls hln => ?_)
  replace hl : lv_has ls 4 [(2, .int 0), (0, .ref m0), (1, .int x)] := hln
  clear hln
  refine lv_iconst (v := 0) hx hb d_Mo_count_7 (by decide) ?_
  refine lv_istore_n (lv' := [(3, .int 0), (2, .int 0), (0, .ref m0), (1, .int x)]) hx hb d_Mo_count_8 rfl hl (by decide) rfl (fun ls hln => ?_)
  replace hl : lv_has ls 4 [(3, .int 0), (2, .int 0), (0, .ref m0), (1, .int x)] := hln
  clear hln
  have hloop2 : ∀ (n9 : Nat) (v : Int32) (i : Nat) (hi : i ≤ mev) (H : Heap) (locs : List Loc) (ls : Array Slot) (hl : lv_has ls 4 [(0, .ref m0), (1, .int x), (2, .int v), (3, .int (nI i))]) (hP : va_P (dC, dI) clA [(m0, .inr (9, [.int 0, .int (nI mt), .ref m1, .ref m2, .int mf, .int (nI mcd), .ref m3, .ref m4, .ref m5, .ref m6, .int (nI mev), .ref m7, .ref m8, .ref m9, .ref m10, .ref m11, .ref m12, .ref m13, .int mwh, .int mps, .ref m14, .ref m15, .long mlr, .int (nI mlt), .int (nI mlm), .ref m16, .int mln, .ref m17])), (m13, .inl (cZ, 30, .inl gcu))] H) (hD : va_D A [(m0, .inr (9, [.int 0, .int (nI mt), .ref m1, .ref m2, .int mf, .int (nI mcd), .ref m3, .ref m4, .ref m5, .ref m6, .int (nI mev), .ref m7, .ref m8, .ref m9, .ref m10, .ref m11, .ref m12, .ref m13, .int mwh, .int mps, .ref m14, .ref m15, .long mlr, .int (nI mlt), .int (nI mlm), .ref m16, .int mln, .ref m17])), (m13, .inl (cZ, 30, .inl gcu))]) (hS : va_S A s.heap H locs) (hm9 : mev - i < n9), W p l e (headSpec (Cond.code y_Mo_count prog_11_method_37_code 4 (some .int) :: wsA) { frames := 0, cells := 0, slots := 0, locals := 0 }).room s m ([.ref m0, .int x] : List Value).toArray below meth c H locs 0 0 Q (F0 m 9 ls []) := by
    clear hl hP hD hS
    intro n9
    induction n9 with
    | zero => intro v i hi H locs ls hl hP hD hS hm; exact absurd hm (Nat.not_lt_zero _)
    | succ n9 hloop2_ih =>
      intro v i hi H locs ls hl hP hD hS hm9
      refine lv_iload_n hx hb d_Mo_count_9 rfl (lv_at hl 3 rfl) ?_
      refine lv_aload_n hx hb d_Mo_count_10 rfl (lv_at hl 0 rfl) ?_
      refine va_get (D := (dC, dI)) (ci := 9) (v := .int (nI mev)) (C := "NetUnfolderModel") (T := T_Mo) (N := 28) hx hb ht in_Mo hown hK hP 0 rfl rfl 10 (by decide) (ht _ wd_4_10) (fun _ h9 => h9) rfl d_Mo_count_11 ?_
      refine lv_icmp_ge (tgt := 40) hx hb d_Mo_count_14 (by decide) (fun hb3 => ?_) (fun hb3 => ?_)
      · skip
        replace hb3 := cv_le (a := mev) (b := i) (by omega) (by omega) hb3
        refine lv_iload_n hx hb d_Mo_count_40 rfl (lv_at hl 1 rfl) ?_
        refine lv_if_ne (tgt := 51) hx hb d_Mo_count_41 (by decide) (fun hb4 => ?_) (fun hb4 => ?_)
        · skip
          refine lv_iload_n hx hb d_Mo_count_51 rfl (lv_at hl 1 rfl) ?_
          refine lv_iconst (v := 1) hx hb d_Mo_count_52 (by decide) ?_
          refine lv_icmp_ne (tgt := 63) hx hb d_Mo_count_53 (by decide) (fun hb5 => ?_) (fun hb5 => ?_)
          · skip
            refine lv_iload_n hx hb d_Mo_count_63 rfl (lv_at hl 1 rfl) ?_
            refine lv_iconst (v := 2) hx hb d_Mo_count_64 (by decide) ?_
            refine lv_icmp_ne (tgt := 72) hx hb d_Mo_count_65 (by decide) (fun hb6 => ?_) (fun hb6 => ?_)
            · skip
              refine lv_iload_n hx hb d_Mo_count_72 rfl (lv_at hl 1 rfl) ?_
              refine lv_iconst (v := 3) hx hb d_Mo_count_73 (by decide) ?_
              refine lv_icmp_ne (tgt := 84) hx hb d_Mo_count_74 (by decide) (fun hb7 => ?_) (fun hb7 => ?_)
              · skip
                refine lv_iconst (v := (-1)) hx hb d_Mo_count_84 (by decide) ?_
                have hP9 := hP.sub (ws' := [(m0, .inr (9, [.int 0, .int (nI mt), .ref m1, .ref m2, .int mf, .int (nI mcd), .ref m3, .ref m4, .ref m5, .ref m6, .int (nI mev), .ref m7, .ref m8, .ref m9, .ref m10, .ref m11, .ref m12, .ref m13, .int mwh, .int mps, .ref m14, .ref m15, .long mlr, .int (nI mlt), .int (nI mlm), .ref m16, .int mln, .ref m17])), (m13, .inl (cZ, 30, .inl gcu))]) [0, 1] rfl
                have hD9 := hD.sub (ws' := [(m0, .inr (9, [.int 0, .int (nI mt), .ref m1, .ref m2, .int mf, .int (nI mcd), .ref m3, .ref m4, .ref m5, .ref m6, .int (nI mev), .ref m7, .ref m8, .ref m9, .ref m10, .ref m11, .ref m12, .ref m13, .int mwh, .int mps, .ref m14, .ref m15, .long mlr, .int (nI mlt), .int (nI mlm), .ref m16, .int mln, .ref m17])), (m13, .inl (cZ, 30, .inl gcu))]) [0, 1] (by decide) rfl
                subst hQ
                exact W.iret (v := (-1)) hx hb hr (fun t9 ht9 hW => ⟨⟨(-1), (), rfl, trivial, by rw [ht9]; exact hP9, hD9⟩, hS.F ht9⟩) hS.2.2 d_Mo_count_85
              · skip
                refine lv_aload_n hx hb d_Mo_count_77 rfl (lv_at hl 0 rfl) ?_
                refine va_get (D := (dC, dI)) (ci := 9) (v := .int mln) (C := "NetUnfolderModel") (T := T_Mo) (N := 28) hx hb ht in_Mo hown hK hP 0 rfl rfl 26 (by decide) (ht _ wd_4_26) (fun _ h9 => h9) rfl d_Mo_count_78 ?_
                refine lv_goto (tgt := 85) hx hb d_Mo_count_81 (by decide) ?_
                have hP9 := hP.sub (ws' := [(m0, .inr (9, [.int 0, .int (nI mt), .ref m1, .ref m2, .int mf, .int (nI mcd), .ref m3, .ref m4, .ref m5, .ref m6, .int (nI mev), .ref m7, .ref m8, .ref m9, .ref m10, .ref m11, .ref m12, .ref m13, .int mwh, .int mps, .ref m14, .ref m15, .long mlr, .int (nI mlt), .int (nI mlm), .ref m16, .int mln, .ref m17])), (m13, .inl (cZ, 30, .inl gcu))]) [0, 1] rfl
                have hD9 := hD.sub (ws' := [(m0, .inr (9, [.int 0, .int (nI mt), .ref m1, .ref m2, .int mf, .int (nI mcd), .ref m3, .ref m4, .ref m5, .ref m6, .int (nI mev), .ref m7, .ref m8, .ref m9, .ref m10, .ref m11, .ref m12, .ref m13, .int mwh, .int mps, .ref m14, .ref m15, .long mlr, .int (nI mlt), .int (nI mlm), .ref m16, .int mln, .ref m17])), (m13, .inl (cZ, 30, .inl gcu))]) [0, 1] (by decide) rfl
                subst hQ
                exact W.iret (v := mln) hx hb hr (fun t9 ht9 hW => ⟨⟨mln, (), rfl, trivial, by rw [ht9]; exact hP9, hD9⟩, hS.F ht9⟩) hS.2.2 d_Mo_count_85
            · skip
              refine lv_iload_n hx hb d_Mo_count_68 rfl (lv_at hl 2 rfl) ?_
              refine lv_goto (tgt := 85) hx hb d_Mo_count_69 (by decide) ?_
              have hP9 := hP.sub (ws' := [(m0, .inr (9, [.int 0, .int (nI mt), .ref m1, .ref m2, .int mf, .int (nI mcd), .ref m3, .ref m4, .ref m5, .ref m6, .int (nI mev), .ref m7, .ref m8, .ref m9, .ref m10, .ref m11, .ref m12, .ref m13, .int mwh, .int mps, .ref m14, .ref m15, .long mlr, .int (nI mlt), .int (nI mlm), .ref m16, .int mln, .ref m17])), (m13, .inl (cZ, 30, .inl gcu))]) [0, 1] rfl
              have hD9 := hD.sub (ws' := [(m0, .inr (9, [.int 0, .int (nI mt), .ref m1, .ref m2, .int mf, .int (nI mcd), .ref m3, .ref m4, .ref m5, .ref m6, .int (nI mev), .ref m7, .ref m8, .ref m9, .ref m10, .ref m11, .ref m12, .ref m13, .int mwh, .int mps, .ref m14, .ref m15, .long mlr, .int (nI mlt), .int (nI mlm), .ref m16, .int mln, .ref m17])), (m13, .inl (cZ, 30, .inl gcu))]) [0, 1] (by decide) rfl
              subst hQ
              exact W.iret (v := v) hx hb hr (fun t9 ht9 hW => ⟨⟨v, (), rfl, trivial, by rw [ht9]; exact hP9, hD9⟩, hS.F ht9⟩) hS.2.2 d_Mo_count_85
          · skip
            refine lv_aload_n hx hb d_Mo_count_56 rfl (lv_at hl 0 rfl) ?_
            refine va_get (D := (dC, dI)) (ci := 9) (v := .int (nI mcd)) (C := "NetUnfolderModel") (T := T_Mo) (N := 28) hx hb ht in_Mo hown hK hP 0 rfl rfl 5 (by decide) (ht _ wd_4_5) (fun _ h9 => h9) rfl d_Mo_count_57 ?_
            refine lv_goto (tgt := 85) hx hb d_Mo_count_60 (by decide) ?_
            have hP9 := hP.sub (ws' := [(m0, .inr (9, [.int 0, .int (nI mt), .ref m1, .ref m2, .int mf, .int (nI mcd), .ref m3, .ref m4, .ref m5, .ref m6, .int (nI mev), .ref m7, .ref m8, .ref m9, .ref m10, .ref m11, .ref m12, .ref m13, .int mwh, .int mps, .ref m14, .ref m15, .long mlr, .int (nI mlt), .int (nI mlm), .ref m16, .int mln, .ref m17])), (m13, .inl (cZ, 30, .inl gcu))]) [0, 1] rfl
            have hD9 := hD.sub (ws' := [(m0, .inr (9, [.int 0, .int (nI mt), .ref m1, .ref m2, .int mf, .int (nI mcd), .ref m3, .ref m4, .ref m5, .ref m6, .int (nI mev), .ref m7, .ref m8, .ref m9, .ref m10, .ref m11, .ref m12, .ref m13, .int mwh, .int mps, .ref m14, .ref m15, .long mlr, .int (nI mlt), .int (nI mlm), .ref m16, .int mln, .ref m17])), (m13, .inl (cZ, 30, .inl gcu))]) [0, 1] (by decide) rfl
            subst hQ
            exact W.iret (v := nI mcd) hx hb hr (fun t9 ht9 hW => ⟨⟨nI mcd, (), rfl, trivial, by rw [ht9]; exact hP9, hD9⟩, hS.F ht9⟩) hS.2.2 d_Mo_count_85
        · skip
          refine lv_aload_n hx hb d_Mo_count_44 rfl (lv_at hl 0 rfl) ?_
          refine va_get (D := (dC, dI)) (ci := 9) (v := .int (nI mev)) (C := "NetUnfolderModel") (T := T_Mo) (N := 28) hx hb ht in_Mo hown hK hP 0 rfl rfl 10 (by decide) (ht _ wd_4_10) (fun _ h9 => h9) rfl d_Mo_count_45 ?_
          refine lv_goto (tgt := 85) hx hb d_Mo_count_48 (by decide) ?_
          have hP9 := hP.sub (ws' := [(m0, .inr (9, [.int 0, .int (nI mt), .ref m1, .ref m2, .int mf, .int (nI mcd), .ref m3, .ref m4, .ref m5, .ref m6, .int (nI mev), .ref m7, .ref m8, .ref m9, .ref m10, .ref m11, .ref m12, .ref m13, .int mwh, .int mps, .ref m14, .ref m15, .long mlr, .int (nI mlt), .int (nI mlm), .ref m16, .int mln, .ref m17])), (m13, .inl (cZ, 30, .inl gcu))]) [0, 1] rfl
          have hD9 := hD.sub (ws' := [(m0, .inr (9, [.int 0, .int (nI mt), .ref m1, .ref m2, .int mf, .int (nI mcd), .ref m3, .ref m4, .ref m5, .ref m6, .int (nI mev), .ref m7, .ref m8, .ref m9, .ref m10, .ref m11, .ref m12, .ref m13, .int mwh, .int mps, .ref m14, .ref m15, .long mlr, .int (nI mlt), .int (nI mlm), .ref m16, .int mln, .ref m17])), (m13, .inl (cZ, 30, .inl gcu))]) [0, 1] (by decide) rfl
          subst hQ
          exact W.iret (v := nI mev) hx hb hr (fun t9 ht9 hW => ⟨⟨nI mev, (), rfl, trivial, by rw [ht9]; exact hP9, hD9⟩, hS.F ht9⟩) hS.2.2 d_Mo_count_85
      · skip
        replace hb3 := cv_nle (a := mev) (b := i) (by omega) (by omega) hb3
        refine lv_aload_n hx hb d_Mo_count_17 rfl (lv_at hl 0 rfl) ?_
        refine va_get (D := (dC, dI)) (ci := 9) (v := .ref m13) (C := "NetUnfolderModel") (T := T_Mo) (N := 28) hx hb ht in_Mo hown hK hP 0 rfl rfl 17 (by decide) (ht _ wd_4_17) (fun _ h9 => h9) rfl d_Mo_count_18 ?_
        refine lv_iload_n hx hb d_Mo_count_21 rfl (lv_at hl 3 rfl) ?_
        refine na_zald (k := i) hx hb hK hP 1 2 rfl rfl (by omega) (by decide) d_Mo_count_22 ?_
        refine lv_if_eq (tgt := 32) hx hb d_Mo_count_23 (by decide) (fun hb8 => ?_) (fun hb8 => ?_)
        · skip
          refine lv_iload_n hx hb d_Mo_count_32 rfl (lv_at hl 2 rfl) ?_
          refine lv_istore_n (lv' := [(2, .int v), (0, .ref m0), (1, .int x), (3, .int (nI i))]) hx hb d_Mo_count_33 rfl hl (by decide) rfl (fun ls hln => ?_)
          replace hl : lv_has ls 4 [(2, .int v), (0, .ref m0), (1, .int x), (3, .int (nI i))] := hln
          clear hln
          refine lv_iinc (k := 3) (v := nI (i + 1)) (lv' := [(3, .int (nI (i + 1))), (2, .int v), (0, .ref m0), (1, .int x)]) hx hb d_Mo_count_34 hl rfl (nI_1 _) (by decide) rfl (fun ls hln => ?_)
          replace hl : lv_has ls 4 [(3, .int (nI (i + 1))), (2, .int v), (0, .ref m0), (1, .int x)] := hln
          clear hln
          refine lv_goto (tgt := 9) hx hb d_Mo_count_37 (by decide) ?_
          exact hloop2_ih v (i + 1) (by first | assumption | omega | trivial | exact AllLt.zero | exact AllN.zero | exact AllM.zero | exact Or.inl rfl | exact Or.inr rfl) _ _ ls (lv_sub hl [2, 3, 1, 0] rfl) (hP.sub [0, 1] rfl) (hD.sub [0, 1] (by decide) rfl) hS (by omega)
        · skip
          refine lv_iload_n hx hb d_Mo_count_26 rfl (lv_at hl 2 rfl) ?_
          refine lv_iconst (v := 1) hx hb d_Mo_count_27 (by decide) ?_
          refine lv_iadd hx hb d_Mo_count_28 ?_
          refine lv_goto (tgt := 33) hx hb d_Mo_count_29 (by decide) ?_
          refine lv_istore_n (lv' := [(2, .int (v + 1)), (0, .ref m0), (1, .int x), (3, .int (nI i))]) hx hb d_Mo_count_33 rfl hl (by decide) rfl (fun ls hln => ?_)
          replace hl : lv_has ls 4 [(2, .int (v + 1)), (0, .ref m0), (1, .int x), (3, .int (nI i))] := hln
          clear hln
          refine lv_iinc (k := 3) (v := nI (i + 1)) (lv' := [(3, .int (nI (i + 1))), (2, .int (v + 1)), (0, .ref m0), (1, .int x)]) hx hb d_Mo_count_34 hl rfl (nI_1 _) (by decide) rfl (fun ls hln => ?_)
          replace hl : lv_has ls 4 [(3, .int (nI (i + 1))), (2, .int (v + 1)), (0, .ref m0), (1, .int x)] := hln
          clear hln
          refine lv_goto (tgt := 9) hx hb d_Mo_count_37 (by decide) ?_
          exact hloop2_ih (v + 1) (i + 1) (by first | assumption | omega | trivial | exact AllLt.zero | exact AllN.zero | exact AllM.zero | exact Or.inl rfl | exact Or.inr rfl) _ _ ls (lv_sub hl [2, 3, 1, 0] rfl) (hP.sub [0, 1] rfl) (hD.sub [0, 1] (by decide) rfl) hS (by omega)
  exact hloop2 ((mev - 0) + 1) 0 0 (by first | assumption | omega | trivial | exact AllLt.zero | exact AllN.zero | exact AllM.zero | exact Or.inl rfl | exact Or.inr rfl) _ _ ls (lv_sub hl [2, 3, 1, 0] rfl) hP hD hS (Nat.lt_succ_self _)

set_option maxHeartbeats 4000000 in
set_option maxRecDepth 100000 in
theorem c_Mo_event (l : Launch) (dC : Nat → ClassId) (dI : Nat → Nat → Nat) (cI cL cZ : ClassId) (sz : Nat) (m0 : Nat) (m1 : Nat) (m2 : Nat) (m3 : Nat) (m4 : Nat) (m5 : Nat) (m6 : Nat) (m7 : Nat) (m8 : Nat) (m9 : Nat) (m10 : Nat) (m11 : Nat) (m12 : Nat) (m13 : Nat) (m14 : Nat) (m15 : Nat) (m16 : Nat) (m17 : Nat) (mth : Int32) (mt : Nat) (mf : Int32) (mcd : Nat) (mev : Nat) (mwh : Int32) (mps : Int32) (mlr : Int64) (mlt : Nat) (mlm : Nat) (mln : Int32) (gtr : Nat → Int32) (grk : Nat → Int64) (gma : Nat → Int32) (gcu : Nat → Int32) (x : Int32) (y : Int32) (hev : mev ≤ 30) : Met l y_Mo_event (Cond.code y_Mo_event prog_11_method_38_code 3 (some .int) :: wsA) { frames := 1, cells := 0, slots := 0, locals := 22 } (va_Pc [.ref m0, .int x, .int y] (fun U => U.heap.size = sz ∧ va_P (dC, dI) clA [(m0, .inr (9, [.int mth, .int (nI mt), .ref m1, .ref m2, .int mf, .int (nI mcd), .ref m3, .ref m4, .ref m5, .ref m6, .int (nI mev), .ref m7, .ref m8, .ref m9, .ref m10, .ref m11, .ref m12, .ref m13, .int mwh, .int mps, .ref m14, .ref m15, .long mlr, .int (nI mlt), .int (nI mlm), .ref m16, .int mln, .ref m17])), (m7, .inl (cI, 30, .inl gtr)), (m11, .inl (cL, 30, .inr (.inl grk))), (m12, .inl (cI, 30, .inl gma)), (m13, .inl (cZ, 30, .inl gcu))] U.heap ∧ va_K (dC, dI) clA [(cI, .int), (cL, .long), (cZ, .boolean)] U ∧ va_D (fun _ => True) [(m0, .inr (9, [.int mth, .int (nI mt), .ref m1, .ref m2, .int mf, .int (nI mcd), .ref m3, .ref m4, .ref m5, .ref m6, .int (nI mev), .ref m7, .ref m8, .ref m9, .ref m10, .ref m11, .ref m12, .ref m13, .int mwh, .int mps, .ref m14, .ref m15, .long mlr, .int (nI mlt), .int (nI mlm), .ref m16, .int mln, .ref m17])), (m7, .inl (cI, 30, .inl gtr)), (m11, .inl (cL, 30, .inr (.inl grk))), (m12, .inl (cI, 30, .inl gma)), (m13, .inl (cZ, 30, .inl gcu))] ∧ NwA U)) (va_Qi (fun r (_ : Unit) => True) (fun _ t => va_P (dC, dI) clA [(m0, .inr (9, [.int 0, .int (nI mt), .ref m1, .ref m2, .int mf, .int (nI mcd), .ref m3, .ref m4, .ref m5, .ref m6, .int (nI mev), .ref m7, .ref m8, .ref m9, .ref m10, .ref m11, .ref m12, .ref m13, .int mwh, .int mps, .ref m14, .ref m15, .long mlr, .int (nI mlt), .int (nI mlm), .ref m16, .int mln, .ref m17])), (m7, .inl (cI, 30, .inl gtr)), (m11, .inl (cL, 30, .inr (.inl grk))), (m12, .inl (cI, 30, .inl gma)), (m13, .inl (cZ, 30, .inl gcu))] t.heap ∧ va_D (va_A [(m0, .inr (9, [.int mth, .int (nI mt), .ref m1, .ref m2, .int mf, .int (nI mcd), .ref m3, .ref m4, .ref m5, .ref m6, .int (nI mev), .ref m7, .ref m8, .ref m9, .ref m10, .ref m11, .ref m12, .ref m13, .int mwh, .int mps, .ref m14, .ref m15, .long mlr, .int (nI mlt), .int (nI mlm), .ref m16, .int mln, .ref m17])), (m7, .inl (cI, 30, .inl gtr)), (m11, .inl (cL, 30, .inr (.inl grk))), (m12, .inl (cI, 30, .inl gma)), (m13, .inl (cZ, 30, .inl gcu))] sz) [(m0, .inr (9, [.int 0, .int (nI mt), .ref m1, .ref m2, .int mf, .int (nI mcd), .ref m3, .ref m4, .ref m5, .ref m6, .int (nI mev), .ref m7, .ref m8, .ref m9, .ref m10, .ref m11, .ref m12, .ref m13, .int mwh, .int mps, .ref m14, .ref m15, .long mlr, .int (nI mlt), .int (nI mlm), .ref m16, .int mln, .ref m17])), (m7, .inl (cI, 30, .inl gtr)), (m11, .inl (cL, 30, .inr (.inl grk))), (m12, .inl (cI, 30, .inl gma)), (m13, .inl (cZ, 30, .inl gcu))]) (va_A [(m0, .inr (9, [.int mth, .int (nI mt), .ref m1, .ref m2, .int mf, .int (nI mcd), .ref m3, .ref m4, .ref m5, .ref m6, .int (nI mev), .ref m7, .ref m8, .ref m9, .ref m10, .ref m11, .ref m12, .ref m13, .int mwh, .int mps, .ref m14, .ref m15, .long mlr, .int (nI mlt), .int (nI mlm), .ref m16, .int mln, .ref m17])), (m7, .inl (cI, 30, .inl gtr)), (m11, .inl (cL, 30, .inr (.inl grk))), (m12, .inl (cI, 30, .inl gma)), (m13, .inl (cZ, 30, .inl gcu))] sz)) 0 0 (va_A [(m0, .inr (9, [.int mth, .int (nI mt), .ref m1, .ref m2, .int mf, .int (nI mcd), .ref m3, .ref m4, .ref m5, .ref m6, .int (nI mev), .ref m7, .ref m8, .ref m9, .ref m10, .ref m11, .ref m12, .ref m13, .int mwh, .int mps, .ref m14, .ref m15, .long mlr, .int (nI mlt), .int (nI mlm), .ref m16, .int mln, .ref m17])), (m7, .inl (cI, 30, .inl gtr)), (m11, .inl (cL, 30, .inr (.inl grk))), (m12, .inl (cI, 30, .inl gma)), (m13, .inl (cZ, 30, .inl gcu))] sz) := by
  refine Met.ofW (cc := prog_11_method_38_code) (maxL := 3) (ret := (some .int)) (by decide) rfl ?_
  intro p e s m args below meth c s₁ B hml hv
  obtain ⟨rfl, hsz, hP, hK, hD0, hN⟩ := hv
  have hx := B.exec
  have hb := B.bytes
  have hr := B.returns
  have ht : ∀ w ∈ wsA, w.before _ s = true := fun w h => atoms_spec (ws := (Cond.code y_Mo_event prog_11_method_38_code 3 (some .int) :: wsA)) B.pre w (List.mem_cons_of_mem _ h)
  have hown : s.vm.findClass "NetUnfolderModel" = some m.cls := findClass_of_methodNamed B.named
  have hlocks := B.notSynchronized
  subst hsz
  have hD := hD0.self (sz := s.heap.size)
  generalize hAe : va_A [(m0, .inr (9, [.int mth, .int (nI mt), .ref m1, .ref m2, .int mf, .int (nI mcd), .ref m3, .ref m4, .ref m5, .ref m6, .int (nI mev), .ref m7, .ref m8, .ref m9, .ref m10, .ref m11, .ref m12, .ref m13, .int mwh, .int mps, .ref m14, .ref m15, .long mlr, .int (nI mlt), .int (nI mlm), .ref m16, .int mln, .ref m17])), (m7, .inl (cI, 30, .inl gtr)), (m11, .inl (cL, 30, .inr (.inl grk))), (m12, .inl (cI, 30, .inl gma)), (m13, .inl (cZ, 30, .inl gcu))] s.heap.size = A at hD ⊢
  have hA : ∀ q : Nat, s.heap.size ≤ q → A q := fun q h => by rw [← hAe]; exact Or.inr h
  have hS : va_S A s.heap s.heap [] := va_S.rf
  have hl := lv_entry ([.ref m0, .int x, .int y]) (n := 3) (Nat.le_of_ble_eq_true rfl)
  rw [lg_entry_eq]
  generalize (lg_sl ([.ref m0, .int x, .int y]) ++ List.replicate (3 - (lg_sl ([.ref m0, .int x, .int y])).length) Slot.unset).toArray = ls at hl ⊢
  replace hl : lv_has ls 3 [(0, .ref m0), (1, .int x), (2, .int y)] := hl
  refine W_Q (fun Q hQ => ?_)
  refine lv_aload_n hx hb d_Mo_event_0 rfl (lv_at hl 0 rfl) ?_
  refine lv_iconst (v := 0) hx hb d_Mo_event_1 (by decide) ?_
  refine va_put (D := (dC, dI)) (ci := 9) (v := .int 0) (ty := .int) (C := "NetUnfolderModel") (T := T_Mo) (N := 28) hx hb ht in_Mo ty_Mo ok_Mo nm_Mo hown hK hP hD hS 0 rfl rfl 0 (by decide) (ht _ wd_4_0) (fun _ h9 => h9) rfl (by decide +kernel) rfl rfl (Nat.le_of_ble_eq_true rfl) d_Mo_event_2 (fun H1 locs hPn hDn hSn => ?_)
  replace hP : va_P (dC, dI) clA [(m0, .inr (9, [.int 0, .int (nI mt), .ref m1, .ref m2, .int mf, .int (nI mcd), .ref m3, .ref m4, .ref m5, .ref m6, .int (nI mev), .ref m7, .ref m8, .ref m9, .ref m10, .ref m11, .ref m12, .ref m13, .int mwh, .int mps, .ref m14, .ref m15, .long mlr, .int (nI mlt), .int (nI mlm), .ref m16, .int mln, .ref m17])), (m7, .inl (cI, 30, .inl gtr)), (m11, .inl (cL, 30, .inr (.inl grk))), (m12, .inl (cI, 30, .inl gma)), (m13, .inl (cZ, 30, .inl gcu))] H1 := hPn
  replace hD : va_D A [(m0, .inr (9, [.int 0, .int (nI mt), .ref m1, .ref m2, .int mf, .int (nI mcd), .ref m3, .ref m4, .ref m5, .ref m6, .int (nI mev), .ref m7, .ref m8, .ref m9, .ref m10, .ref m11, .ref m12, .ref m13, .int mwh, .int mps, .ref m14, .ref m15, .long mlr, .int (nI mlt), .int (nI mlm), .ref m16, .int mln, .ref m17])), (m7, .inl (cI, 30, .inl gtr)), (m11, .inl (cL, 30, .inr (.inl grk))), (m12, .inl (cI, 30, .inl gma)), (m13, .inl (cZ, 30, .inl gcu))] := hDn
  replace hS := hSn
  clear hPn hDn hSn
  refine lv_iload_n hx hb d_Mo_event_5 rfl (lv_at hl 1 rfl) ?_
  refine lv_iconst (v := 0) hx hb d_Mo_event_6 (by decide) ?_
  refine lv_aload_n hx hb d_Mo_event_7 rfl (lv_at hl 0 rfl) ?_
  refine va_get (D := (dC, dI)) (ci := 9) (v := .int (nI mev)) (C := "NetUnfolderModel") (T := T_Mo) (N := 28) hx hb ht in_Mo hown hK hP 0 rfl rfl 10 (by decide) (ht _ wd_4_10) (fun _ h9 => h9) rfl d_Mo_event_8 ?_
  refine lv_iconst (v := 1) hx hb d_Mo_event_11 (by decide) ?_
  refine lv_isub hx hb d_Mo_event_12 ?_
  have hPc : va_P (dC, dI) clA [] _ := pu_P (H := H1)
  have hDc : va_D (fun _ => True) [] := pu_D
  have hFc := pu_free hS hA
  refine va_calli (va_runS (As := [.int x, .int 0, .int ((nI mev) - 1)]) (rest := []) ⟨hx, hb, hml, hown, ht⟩ (c_Mo_outside l dC dI cI cL cZ _ x 0 ((nI mev) - 1) ) (va_cwS 3 ht (good_S wd_4_90 wd_4_91 wd_1_10 wd_4_92) rfl rfl rfl (by decide +kernel) ⟨Nat.le_of_ble_eq_true rfl, Nat.le_of_ble_eq_true rfl⟩) ⟨fun a U g mk q => by obtain ⟨q0, q1, qP, qK, qD, qN⟩ := q; exact ⟨q0, q1, qP, va_K.moved (u := U) (U := U.calling g mk a) (Vm.Alike.refl U.vm) qK, qD, NwA.same (u := U) rfl qN⟩, fun U hU hW => ⟨rfl, by rw [hU], by rw [hU]; exact hPc, va_K.moved hW.alike hK, hDc.weaken (fun _ _ _ _ => trivial), NwA.warm hW hN⟩⟩ rfl rfl hl.1 rfl (lv_room (Nat.le_of_ble_eq_true rfl)) d_Mo_event_13 ⟨Nat.le_of_ble_eq_true rfl, Nat.le_of_ble_eq_true rfl⟩) hS (fun q _ h => hFc q h) hFc (fun r4 u9 t9 H2 locs ht9 hvm hw3 hB hz1 hk1 hSn => ?_)
  replace hP : va_P (dC, dI) clA [(m0, .inr (9, [.int 0, .int (nI mt), .ref m1, .ref m2, .int mf, .int (nI mcd), .ref m3, .ref m4, .ref m5, .ref m6, .int (nI mev), .ref m7, .ref m8, .ref m9, .ref m10, .ref m11, .ref m12, .ref m13, .int mwh, .int mps, .ref m14, .ref m15, .long mlr, .int (nI mlt), .int (nI mlm), .ref m16, .int mln, .ref m17])), (m7, .inl (cI, 30, .inl gtr)), (m11, .inl (cL, 30, .inr (.inl grk))), (m12, .inl (cI, 30, .inl gma)), (m13, .inl (cZ, 30, .inl gcu))] H2 := pu_keep hP hk1
  replace hS := hSn
  clear hSn hPc hDc hFc hk1 hz1 ht9 hvm hB
  refine W.cs (cells' := 0) (slots' := 0) rfl rfl ?_
  have hr5 := hw3
  refine lv_if_ne (tgt := 28) hx hb d_Mo_event_16 (by decide) (fun hb6 => ?_) (fun hb6 => ?_)
  · skip
    refine lv_iconst (v := (-1)) hx hb d_Mo_event_28 (by decide) ?_
    have hP9 := hP.sub (ws' := [(m0, .inr (9, [.int 0, .int (nI mt), .ref m1, .ref m2, .int mf, .int (nI mcd), .ref m3, .ref m4, .ref m5, .ref m6, .int (nI mev), .ref m7, .ref m8, .ref m9, .ref m10, .ref m11, .ref m12, .ref m13, .int mwh, .int mps, .ref m14, .ref m15, .long mlr, .int (nI mlt), .int (nI mlm), .ref m16, .int mln, .ref m17])), (m7, .inl (cI, 30, .inl gtr)), (m11, .inl (cL, 30, .inr (.inl grk))), (m12, .inl (cI, 30, .inl gma)), (m13, .inl (cZ, 30, .inl gcu))]) [0, 1, 2, 3, 4] rfl
    have hD9 := hD.sub (ws' := [(m0, .inr (9, [.int 0, .int (nI mt), .ref m1, .ref m2, .int mf, .int (nI mcd), .ref m3, .ref m4, .ref m5, .ref m6, .int (nI mev), .ref m7, .ref m8, .ref m9, .ref m10, .ref m11, .ref m12, .ref m13, .int mwh, .int mps, .ref m14, .ref m15, .long mlr, .int (nI mlt), .int (nI mlm), .ref m16, .int mln, .ref m17])), (m7, .inl (cI, 30, .inl gtr)), (m11, .inl (cL, 30, .inr (.inl grk))), (m12, .inl (cI, 30, .inl gma)), (m13, .inl (cZ, 30, .inl gcu))]) [0, 1, 2, 3, 4] (by decide) rfl
    subst hQ
    exact W.iret (v := (-1)) hx hb hr (fun t9 ht9 hW => ⟨⟨(-1), (), rfl, trivial, by rw [ht9]; exact hP9, hD9⟩, hS.F ht9⟩) hS.2.2 d_Mo_event_29
  · skip
    have ho8 := out_0 hr5 hb6
    obtain ⟨j7, j7_l, rfl⟩ := ix_out (by omega) ho8.1 ho8.2
    refine lv_iload_n hx hb d_Mo_event_19 rfl (lv_at hl 2 rfl) ?_
    refine lv_iconst (v := 0) hx hb d_Mo_event_20 (by decide) ?_
    refine lv_iconst (v := 3) hx hb d_Mo_event_21 (by decide) ?_
    have hPc : va_P (dC, dI) clA [] _ := pu_P (H := H2)
    have hDc : va_D (fun _ => True) [] := pu_D
    have hFc := pu_free hS hA
    refine va_calli (va_runS (As := [.int y, .int 0, .int 3]) (rest := []) ⟨hx, hb, hml, hown, ht⟩ (c_Mo_outside l dC dI cI cL cZ _ y 0 3 ) (va_cwS 3 ht (good_S wd_4_90 wd_4_91 wd_1_10 wd_4_92) rfl rfl rfl (by decide +kernel) ⟨Nat.le_of_ble_eq_true rfl, Nat.le_of_ble_eq_true rfl⟩) ⟨fun a U g mk q => by obtain ⟨q0, q1, qP, qK, qD, qN⟩ := q; exact ⟨q0, q1, qP, va_K.moved (u := U) (U := U.calling g mk a) (Vm.Alike.refl U.vm) qK, qD, NwA.same (u := U) rfl qN⟩, fun U hU hW => ⟨rfl, by rw [hU], by rw [hU]; exact hPc, va_K.moved hW.alike hK, hDc.weaken (fun _ _ _ _ => trivial), NwA.warm hW hN⟩⟩ rfl rfl hl.1 rfl (lv_room (Nat.le_of_ble_eq_true rfl)) d_Mo_event_22 ⟨Nat.le_of_ble_eq_true rfl, Nat.le_of_ble_eq_true rfl⟩) hS (fun q _ h => hFc q h) hFc (fun r11 u9 t9 H9 locs ht9 hvm hw10 hB hz1 hk1 hSn => ?_)
    replace hP : va_P (dC, dI) clA [(m0, .inr (9, [.int 0, .int (nI mt), .ref m1, .ref m2, .int mf, .int (nI mcd), .ref m3, .ref m4, .ref m5, .ref m6, .int (nI mev), .ref m7, .ref m8, .ref m9, .ref m10, .ref m11, .ref m12, .ref m13, .int mwh, .int mps, .ref m14, .ref m15, .long mlr, .int (nI mlt), .int (nI mlm), .ref m16, .int mln, .ref m17])), (m7, .inl (cI, 30, .inl gtr)), (m11, .inl (cL, 30, .inr (.inl grk))), (m12, .inl (cI, 30, .inl gma)), (m13, .inl (cZ, 30, .inl gcu))] H9 := pu_keep hP hk1
    replace hS := hSn
    clear hSn hPc hDc hFc hk1 hz1 ht9 hvm hB
    refine W.cs (cells' := 0) (slots' := 0) rfl rfl ?_
    have hr12 := hw10
    refine lv_if_eq (tgt := 30) hx hb d_Mo_event_25 (by decide) (fun hb13 => ?_) (fun hb13 => ?_)
    · skip
      refine lv_iload_n hx hb d_Mo_event_30 rfl (lv_at hl 2 rfl) ?_
      refine lv_if_ne (tgt := 43) hx hb d_Mo_event_31 (by decide) (fun hb14 => ?_) (fun hb14 => ?_)
      · skip
        refine lv_iload_n hx hb d_Mo_event_43 rfl (lv_at hl 2 rfl) ?_
        refine lv_iconst (v := 1) hx hb d_Mo_event_44 (by decide) ?_
        refine lv_icmp_ne (tgt := 63) hx hb d_Mo_event_45 (by decide) (fun hb15 => ?_) (fun hb15 => ?_)
        · skip
          refine lv_iload_n hx hb d_Mo_event_63 rfl (lv_at hl 2 rfl) ?_
          refine lv_iconst (v := 2) hx hb d_Mo_event_64 (by decide) ?_
          refine lv_icmp_ne (tgt := 77) hx hb d_Mo_event_65 (by decide) (fun hb16 => ?_) (fun hb16 => ?_)
          · skip
            refine lv_aload_n hx hb d_Mo_event_77 rfl (lv_at hl 0 rfl) ?_
            refine va_get (D := (dC, dI)) (ci := 9) (v := .ref m13) (C := "NetUnfolderModel") (T := T_Mo) (N := 28) hx hb ht in_Mo hown hK hP 0 rfl rfl 17 (by decide) (ht _ wd_4_17) (fun _ h9 => h9) rfl d_Mo_event_78 ?_
            refine lv_iload_n hx hb d_Mo_event_81 rfl (lv_at hl 1 rfl) ?_
            refine na_zald (k := j7) hx hb hK hP 4 2 rfl rfl (by omega) (by decide) d_Mo_event_82 ?_
            refine lv_if_eq (tgt := 90) hx hb d_Mo_event_83 (by decide) (fun hb17 => ?_) (fun hb17 => ?_)
            · skip
              refine lv_iconst (v := 0) hx hb d_Mo_event_90 (by decide) ?_
              have hP9 := hP.sub (ws' := [(m0, .inr (9, [.int 0, .int (nI mt), .ref m1, .ref m2, .int mf, .int (nI mcd), .ref m3, .ref m4, .ref m5, .ref m6, .int (nI mev), .ref m7, .ref m8, .ref m9, .ref m10, .ref m11, .ref m12, .ref m13, .int mwh, .int mps, .ref m14, .ref m15, .long mlr, .int (nI mlt), .int (nI mlm), .ref m16, .int mln, .ref m17])), (m7, .inl (cI, 30, .inl gtr)), (m11, .inl (cL, 30, .inr (.inl grk))), (m12, .inl (cI, 30, .inl gma)), (m13, .inl (cZ, 30, .inl gcu))]) [0, 1, 2, 3, 4] rfl
              have hD9 := hD.sub (ws' := [(m0, .inr (9, [.int 0, .int (nI mt), .ref m1, .ref m2, .int mf, .int (nI mcd), .ref m3, .ref m4, .ref m5, .ref m6, .int (nI mev), .ref m7, .ref m8, .ref m9, .ref m10, .ref m11, .ref m12, .ref m13, .int mwh, .int mps, .ref m14, .ref m15, .long mlr, .int (nI mlt), .int (nI mlm), .ref m16, .int mln, .ref m17])), (m7, .inl (cI, 30, .inl gtr)), (m11, .inl (cL, 30, .inr (.inl grk))), (m12, .inl (cI, 30, .inl gma)), (m13, .inl (cZ, 30, .inl gcu))]) [0, 1, 2, 3, 4] (by decide) rfl
              subst hQ
              exact W.iret (v := 0) hx hb hr (fun t9 ht9 hW => ⟨⟨0, (), rfl, trivial, by rw [ht9]; exact hP9, hD9⟩, hS.F ht9⟩) hS.2.2 d_Mo_event_91
            · skip
              refine lv_iconst (v := 1) hx hb d_Mo_event_86 (by decide) ?_
              refine lv_goto (tgt := 91) hx hb d_Mo_event_87 (by decide) ?_
              have hP9 := hP.sub (ws' := [(m0, .inr (9, [.int 0, .int (nI mt), .ref m1, .ref m2, .int mf, .int (nI mcd), .ref m3, .ref m4, .ref m5, .ref m6, .int (nI mev), .ref m7, .ref m8, .ref m9, .ref m10, .ref m11, .ref m12, .ref m13, .int mwh, .int mps, .ref m14, .ref m15, .long mlr, .int (nI mlt), .int (nI mlm), .ref m16, .int mln, .ref m17])), (m7, .inl (cI, 30, .inl gtr)), (m11, .inl (cL, 30, .inr (.inl grk))), (m12, .inl (cI, 30, .inl gma)), (m13, .inl (cZ, 30, .inl gcu))]) [0, 1, 2, 3, 4] rfl
              have hD9 := hD.sub (ws' := [(m0, .inr (9, [.int 0, .int (nI mt), .ref m1, .ref m2, .int mf, .int (nI mcd), .ref m3, .ref m4, .ref m5, .ref m6, .int (nI mev), .ref m7, .ref m8, .ref m9, .ref m10, .ref m11, .ref m12, .ref m13, .int mwh, .int mps, .ref m14, .ref m15, .long mlr, .int (nI mlt), .int (nI mlm), .ref m16, .int mln, .ref m17])), (m7, .inl (cI, 30, .inl gtr)), (m11, .inl (cL, 30, .inr (.inl grk))), (m12, .inl (cI, 30, .inl gma)), (m13, .inl (cZ, 30, .inl gcu))]) [0, 1, 2, 3, 4] (by decide) rfl
              subst hQ
              exact W.iret (v := 1) hx hb hr (fun t9 ht9 hW => ⟨⟨1, (), rfl, trivial, by rw [ht9]; exact hP9, hD9⟩, hS.F ht9⟩) hS.2.2 d_Mo_event_91
          · skip
            refine lv_aload_n hx hb d_Mo_event_68 rfl (lv_at hl 0 rfl) ?_
            refine va_get (D := (dC, dI)) (ci := 9) (v := .ref m12) (C := "NetUnfolderModel") (T := T_Mo) (N := 28) hx hb ht in_Mo hown hK hP 0 rfl rfl 16 (by decide) (ht _ wd_4_16) (fun _ h9 => h9) rfl d_Mo_event_69 ?_
            refine lv_iload_n hx hb d_Mo_event_72 rfl (lv_at hl 1 rfl) ?_
            refine na_iald (k := j7) hx hb hK hP 3 0 rfl rfl (by omega) (by decide) d_Mo_event_73 ?_
            refine lv_goto (tgt := 91) hx hb d_Mo_event_74 (by decide) ?_
            have hP9 := hP.sub (ws' := [(m0, .inr (9, [.int 0, .int (nI mt), .ref m1, .ref m2, .int mf, .int (nI mcd), .ref m3, .ref m4, .ref m5, .ref m6, .int (nI mev), .ref m7, .ref m8, .ref m9, .ref m10, .ref m11, .ref m12, .ref m13, .int mwh, .int mps, .ref m14, .ref m15, .long mlr, .int (nI mlt), .int (nI mlm), .ref m16, .int mln, .ref m17])), (m7, .inl (cI, 30, .inl gtr)), (m11, .inl (cL, 30, .inr (.inl grk))), (m12, .inl (cI, 30, .inl gma)), (m13, .inl (cZ, 30, .inl gcu))]) [0, 1, 2, 3, 4] rfl
            have hD9 := hD.sub (ws' := [(m0, .inr (9, [.int 0, .int (nI mt), .ref m1, .ref m2, .int mf, .int (nI mcd), .ref m3, .ref m4, .ref m5, .ref m6, .int (nI mev), .ref m7, .ref m8, .ref m9, .ref m10, .ref m11, .ref m12, .ref m13, .int mwh, .int mps, .ref m14, .ref m15, .long mlr, .int (nI mlt), .int (nI mlm), .ref m16, .int mln, .ref m17])), (m7, .inl (cI, 30, .inl gtr)), (m11, .inl (cL, 30, .inr (.inl grk))), (m12, .inl (cI, 30, .inl gma)), (m13, .inl (cZ, 30, .inl gcu))]) [0, 1, 2, 3, 4] (by decide) rfl
            subst hQ
            exact W.iret (v := gma j7) hx hb hr (fun t9 ht9 hW => ⟨⟨gma j7, (), rfl, trivial, by rw [ht9]; exact hP9, hD9⟩, hS.F ht9⟩) hS.2.2 d_Mo_event_91
        · skip
          refine lv_aload_n hx hb d_Mo_event_48 rfl (lv_at hl 0 rfl) ?_
          refine va_get (D := (dC, dI)) (ci := 9) (v := .ref m11) (C := "NetUnfolderModel") (T := T_Mo) (N := 28) hx hb ht in_Mo hown hK hP 0 rfl rfl 15 (by decide) (ht _ wd_4_15) (fun _ h9 => h9) rfl d_Mo_event_49 ?_
          refine lv_iload_n hx hb d_Mo_event_52 rfl (lv_at hl 1 rfl) ?_
          refine na_lald (k := j7) hx hb hK hP 2 1 rfl rfl (by omega) (by decide) d_Mo_event_53 ?_
          refine lv_bipush (v := 40) hx hb d_Mo_event_54 (by decide) ?_
          refine lv_lshr (v := (grk j7) >>> (Int32.toInt64 40 &&& 63)) hx hb d_Mo_event_56 rfl ?_
          refine lv_l2i (v := Int64.toInt32 ((grk j7) >>> (Int32.toInt64 40 &&& 63))) hx hb d_Mo_event_57 rfl ?_
          refine lv_iconst (v := 1) hx hb d_Mo_event_58 (by decide) ?_
          refine lv_isub hx hb d_Mo_event_59 ?_
          refine lv_goto (tgt := 91) hx hb d_Mo_event_60 (by decide) ?_
          have hP9 := hP.sub (ws' := [(m0, .inr (9, [.int 0, .int (nI mt), .ref m1, .ref m2, .int mf, .int (nI mcd), .ref m3, .ref m4, .ref m5, .ref m6, .int (nI mev), .ref m7, .ref m8, .ref m9, .ref m10, .ref m11, .ref m12, .ref m13, .int mwh, .int mps, .ref m14, .ref m15, .long mlr, .int (nI mlt), .int (nI mlm), .ref m16, .int mln, .ref m17])), (m7, .inl (cI, 30, .inl gtr)), (m11, .inl (cL, 30, .inr (.inl grk))), (m12, .inl (cI, 30, .inl gma)), (m13, .inl (cZ, 30, .inl gcu))]) [0, 1, 2, 3, 4] rfl
          have hD9 := hD.sub (ws' := [(m0, .inr (9, [.int 0, .int (nI mt), .ref m1, .ref m2, .int mf, .int (nI mcd), .ref m3, .ref m4, .ref m5, .ref m6, .int (nI mev), .ref m7, .ref m8, .ref m9, .ref m10, .ref m11, .ref m12, .ref m13, .int mwh, .int mps, .ref m14, .ref m15, .long mlr, .int (nI mlt), .int (nI mlm), .ref m16, .int mln, .ref m17])), (m7, .inl (cI, 30, .inl gtr)), (m11, .inl (cL, 30, .inr (.inl grk))), (m12, .inl (cI, 30, .inl gma)), (m13, .inl (cZ, 30, .inl gcu))]) [0, 1, 2, 3, 4] (by decide) rfl
          subst hQ
          exact W.iret (v := (Int64.toInt32 ((grk j7) >>> (Int32.toInt64 40 &&& 63))) - 1) hx hb hr (fun t9 ht9 hW => ⟨⟨(Int64.toInt32 ((grk j7) >>> (Int32.toInt64 40 &&& 63))) - 1, (), rfl, trivial, by rw [ht9]; exact hP9, hD9⟩, hS.F ht9⟩) hS.2.2 d_Mo_event_91
      · skip
        refine lv_aload_n hx hb d_Mo_event_34 rfl (lv_at hl 0 rfl) ?_
        refine va_get (D := (dC, dI)) (ci := 9) (v := .ref m7) (C := "NetUnfolderModel") (T := T_Mo) (N := 28) hx hb ht in_Mo hown hK hP 0 rfl rfl 11 (by decide) (ht _ wd_4_11) (fun _ h9 => h9) rfl d_Mo_event_35 ?_
        refine lv_iload_n hx hb d_Mo_event_38 rfl (lv_at hl 1 rfl) ?_
        refine na_iald (k := j7) hx hb hK hP 1 0 rfl rfl (by omega) (by decide) d_Mo_event_39 ?_
        refine lv_goto (tgt := 91) hx hb d_Mo_event_40 (by decide) ?_
        have hP9 := hP.sub (ws' := [(m0, .inr (9, [.int 0, .int (nI mt), .ref m1, .ref m2, .int mf, .int (nI mcd), .ref m3, .ref m4, .ref m5, .ref m6, .int (nI mev), .ref m7, .ref m8, .ref m9, .ref m10, .ref m11, .ref m12, .ref m13, .int mwh, .int mps, .ref m14, .ref m15, .long mlr, .int (nI mlt), .int (nI mlm), .ref m16, .int mln, .ref m17])), (m7, .inl (cI, 30, .inl gtr)), (m11, .inl (cL, 30, .inr (.inl grk))), (m12, .inl (cI, 30, .inl gma)), (m13, .inl (cZ, 30, .inl gcu))]) [0, 1, 2, 3, 4] rfl
        have hD9 := hD.sub (ws' := [(m0, .inr (9, [.int 0, .int (nI mt), .ref m1, .ref m2, .int mf, .int (nI mcd), .ref m3, .ref m4, .ref m5, .ref m6, .int (nI mev), .ref m7, .ref m8, .ref m9, .ref m10, .ref m11, .ref m12, .ref m13, .int mwh, .int mps, .ref m14, .ref m15, .long mlr, .int (nI mlt), .int (nI mlm), .ref m16, .int mln, .ref m17])), (m7, .inl (cI, 30, .inl gtr)), (m11, .inl (cL, 30, .inr (.inl grk))), (m12, .inl (cI, 30, .inl gma)), (m13, .inl (cZ, 30, .inl gcu))]) [0, 1, 2, 3, 4] (by decide) rfl
        subst hQ
        exact W.iret (v := gtr j7) hx hb hr (fun t9 ht9 hW => ⟨⟨gtr j7, (), rfl, trivial, by rw [ht9]; exact hP9, hD9⟩, hS.F ht9⟩) hS.2.2 d_Mo_event_91
    · skip
      refine lv_iconst (v := (-1)) hx hb d_Mo_event_28 (by decide) ?_
      have hP9 := hP.sub (ws' := [(m0, .inr (9, [.int 0, .int (nI mt), .ref m1, .ref m2, .int mf, .int (nI mcd), .ref m3, .ref m4, .ref m5, .ref m6, .int (nI mev), .ref m7, .ref m8, .ref m9, .ref m10, .ref m11, .ref m12, .ref m13, .int mwh, .int mps, .ref m14, .ref m15, .long mlr, .int (nI mlt), .int (nI mlm), .ref m16, .int mln, .ref m17])), (m7, .inl (cI, 30, .inl gtr)), (m11, .inl (cL, 30, .inr (.inl grk))), (m12, .inl (cI, 30, .inl gma)), (m13, .inl (cZ, 30, .inl gcu))]) [0, 1, 2, 3, 4] rfl
      have hD9 := hD.sub (ws' := [(m0, .inr (9, [.int 0, .int (nI mt), .ref m1, .ref m2, .int mf, .int (nI mcd), .ref m3, .ref m4, .ref m5, .ref m6, .int (nI mev), .ref m7, .ref m8, .ref m9, .ref m10, .ref m11, .ref m12, .ref m13, .int mwh, .int mps, .ref m14, .ref m15, .long mlr, .int (nI mlt), .int (nI mlm), .ref m16, .int mln, .ref m17])), (m7, .inl (cI, 30, .inl gtr)), (m11, .inl (cL, 30, .inr (.inl grk))), (m12, .inl (cI, 30, .inl gma)), (m13, .inl (cZ, 30, .inl gcu))]) [0, 1, 2, 3, 4] (by decide) rfl
      subst hQ
      exact W.iret (v := (-1)) hx hb hr (fun t9 ht9 hW => ⟨⟨(-1), (), rfl, trivial, by rw [ht9]; exact hP9, hD9⟩, hS.F ht9⟩) hS.2.2 d_Mo_event_29

set_option maxHeartbeats 4000000 in
set_option maxRecDepth 100000 in
theorem c_Mo_cond (l : Launch) (dC : Nat → ClassId) (dI : Nat → Nat → Nat) (cI cL cZ : ClassId) (sz : Nat) (m0 : Nat) (m1 : Nat) (m2 : Nat) (m3 : Nat) (m4 : Nat) (m5 : Nat) (m6 : Nat) (m7 : Nat) (m8 : Nat) (m9 : Nat) (m10 : Nat) (m11 : Nat) (m12 : Nat) (m13 : Nat) (m14 : Nat) (m15 : Nat) (m16 : Nat) (m17 : Nat) (mth : Int32) (mt : Nat) (mf : Int32) (mcd : Nat) (mev : Nat) (mwh : Int32) (mps : Int32) (mlr : Int64) (mlt : Nat) (mlm : Nat) (mln : Int32) (gpl : Nat → Int32) (gmk : Nat → Int32) (gtn : Nat → Int64) (x : Int32) (y : Int32) (hev : mev ≤ 30) (hcd : mcd ≤ 60) : Met l y_Mo_condition_II (Cond.code y_Mo_condition_II prog_11_method_40_code 5 (some .int) :: wsA) { frames := 1, cells := 0, slots := 0, locals := 22 } (va_Pc [.ref m0, .int x, .int y] (fun U => U.heap.size = sz ∧ va_P (dC, dI) clA [(m0, .inr (9, [.int mth, .int (nI mt), .ref m1, .ref m2, .int mf, .int (nI mcd), .ref m3, .ref m4, .ref m5, .ref m6, .int (nI mev), .ref m7, .ref m8, .ref m9, .ref m10, .ref m11, .ref m12, .ref m13, .int mwh, .int mps, .ref m14, .ref m15, .long mlr, .int (nI mlt), .int (nI mlm), .ref m16, .int mln, .ref m17])), (m9, .inl (cL, 30, .inr (.inl gtn))), (m3, .inl (cI, 60, .inl gpl)), (m4, .inl (cI, 60, .inl gmk))] U.heap ∧ va_K (dC, dI) clA [(cI, .int), (cL, .long), (cZ, .boolean)] U ∧ va_D (fun _ => True) [(m0, .inr (9, [.int mth, .int (nI mt), .ref m1, .ref m2, .int mf, .int (nI mcd), .ref m3, .ref m4, .ref m5, .ref m6, .int (nI mev), .ref m7, .ref m8, .ref m9, .ref m10, .ref m11, .ref m12, .ref m13, .int mwh, .int mps, .ref m14, .ref m15, .long mlr, .int (nI mlt), .int (nI mlm), .ref m16, .int mln, .ref m17])), (m9, .inl (cL, 30, .inr (.inl gtn))), (m3, .inl (cI, 60, .inl gpl)), (m4, .inl (cI, 60, .inl gmk))] ∧ NwA U)) (va_Qi (fun r (_ : Unit) => True) (fun _ t => va_P (dC, dI) clA [(m0, .inr (9, [.int 0, .int (nI mt), .ref m1, .ref m2, .int mf, .int (nI mcd), .ref m3, .ref m4, .ref m5, .ref m6, .int (nI mev), .ref m7, .ref m8, .ref m9, .ref m10, .ref m11, .ref m12, .ref m13, .int mwh, .int mps, .ref m14, .ref m15, .long mlr, .int (nI mlt), .int (nI mlm), .ref m16, .int mln, .ref m17])), (m9, .inl (cL, 30, .inr (.inl gtn))), (m3, .inl (cI, 60, .inl gpl)), (m4, .inl (cI, 60, .inl gmk))] t.heap ∧ va_D (va_A [(m0, .inr (9, [.int mth, .int (nI mt), .ref m1, .ref m2, .int mf, .int (nI mcd), .ref m3, .ref m4, .ref m5, .ref m6, .int (nI mev), .ref m7, .ref m8, .ref m9, .ref m10, .ref m11, .ref m12, .ref m13, .int mwh, .int mps, .ref m14, .ref m15, .long mlr, .int (nI mlt), .int (nI mlm), .ref m16, .int mln, .ref m17])), (m9, .inl (cL, 30, .inr (.inl gtn))), (m3, .inl (cI, 60, .inl gpl)), (m4, .inl (cI, 60, .inl gmk))] sz) [(m0, .inr (9, [.int 0, .int (nI mt), .ref m1, .ref m2, .int mf, .int (nI mcd), .ref m3, .ref m4, .ref m5, .ref m6, .int (nI mev), .ref m7, .ref m8, .ref m9, .ref m10, .ref m11, .ref m12, .ref m13, .int mwh, .int mps, .ref m14, .ref m15, .long mlr, .int (nI mlt), .int (nI mlm), .ref m16, .int mln, .ref m17])), (m9, .inl (cL, 30, .inr (.inl gtn))), (m3, .inl (cI, 60, .inl gpl)), (m4, .inl (cI, 60, .inl gmk))]) (va_A [(m0, .inr (9, [.int mth, .int (nI mt), .ref m1, .ref m2, .int mf, .int (nI mcd), .ref m3, .ref m4, .ref m5, .ref m6, .int (nI mev), .ref m7, .ref m8, .ref m9, .ref m10, .ref m11, .ref m12, .ref m13, .int mwh, .int mps, .ref m14, .ref m15, .long mlr, .int (nI mlt), .int (nI mlm), .ref m16, .int mln, .ref m17])), (m9, .inl (cL, 30, .inr (.inl gtn))), (m3, .inl (cI, 60, .inl gpl)), (m4, .inl (cI, 60, .inl gmk))] sz)) 0 0 (va_A [(m0, .inr (9, [.int mth, .int (nI mt), .ref m1, .ref m2, .int mf, .int (nI mcd), .ref m3, .ref m4, .ref m5, .ref m6, .int (nI mev), .ref m7, .ref m8, .ref m9, .ref m10, .ref m11, .ref m12, .ref m13, .int mwh, .int mps, .ref m14, .ref m15, .long mlr, .int (nI mlt), .int (nI mlm), .ref m16, .int mln, .ref m17])), (m9, .inl (cL, 30, .inr (.inl gtn))), (m3, .inl (cI, 60, .inl gpl)), (m4, .inl (cI, 60, .inl gmk))] sz) := by
  refine Met.ofW (cc := prog_11_method_40_code) (maxL := 5) (ret := (some .int)) (by decide) rfl ?_
  intro p e s m args below meth c s₁ B hml hv
  obtain ⟨rfl, hsz, hP, hK, hD0, hN⟩ := hv
  have hx := B.exec
  have hb := B.bytes
  have hr := B.returns
  have ht : ∀ w ∈ wsA, w.before _ s = true := fun w h => atoms_spec (ws := (Cond.code y_Mo_condition_II prog_11_method_40_code 5 (some .int) :: wsA)) B.pre w (List.mem_cons_of_mem _ h)
  have hown : s.vm.findClass "NetUnfolderModel" = some m.cls := findClass_of_methodNamed B.named
  have hlocks := B.notSynchronized
  subst hsz
  have hD := hD0.self (sz := s.heap.size)
  generalize hAe : va_A [(m0, .inr (9, [.int mth, .int (nI mt), .ref m1, .ref m2, .int mf, .int (nI mcd), .ref m3, .ref m4, .ref m5, .ref m6, .int (nI mev), .ref m7, .ref m8, .ref m9, .ref m10, .ref m11, .ref m12, .ref m13, .int mwh, .int mps, .ref m14, .ref m15, .long mlr, .int (nI mlt), .int (nI mlm), .ref m16, .int mln, .ref m17])), (m9, .inl (cL, 30, .inr (.inl gtn))), (m3, .inl (cI, 60, .inl gpl)), (m4, .inl (cI, 60, .inl gmk))] s.heap.size = A at hD ⊢
  have hA : ∀ q : Nat, s.heap.size ≤ q → A q := fun q h => by rw [← hAe]; exact Or.inr h
  have hS : va_S A s.heap s.heap [] := va_S.rf
  have hl := lv_entry ([.ref m0, .int x, .int y]) (n := 5) (Nat.le_of_ble_eq_true rfl)
  rw [lg_entry_eq]
  generalize (lg_sl ([.ref m0, .int x, .int y]) ++ List.replicate (5 - (lg_sl ([.ref m0, .int x, .int y])).length) Slot.unset).toArray = ls at hl ⊢
  replace hl : lv_has ls 5 [(0, .ref m0), (1, .int x), (2, .int y)] := hl
  refine W_Q (fun Q hQ => ?_)
  refine lv_aload_n hx hb d_Mo_condition_II_0 rfl (lv_at hl 0 rfl) ?_
  refine lv_iconst (v := 0) hx hb d_Mo_condition_II_1 (by decide) ?_
  refine va_put (D := (dC, dI)) (ci := 9) (v := .int 0) (ty := .int) (C := "NetUnfolderModel") (T := T_Mo) (N := 28) hx hb ht in_Mo ty_Mo ok_Mo nm_Mo hown hK hP hD hS 0 rfl rfl 0 (by decide) (ht _ wd_4_0) (fun _ h9 => h9) rfl (by decide +kernel) rfl rfl (Nat.le_of_ble_eq_true rfl) d_Mo_condition_II_2 (fun H1 locs hPn hDn hSn => ?_)
  replace hP : va_P (dC, dI) clA [(m0, .inr (9, [.int 0, .int (nI mt), .ref m1, .ref m2, .int mf, .int (nI mcd), .ref m3, .ref m4, .ref m5, .ref m6, .int (nI mev), .ref m7, .ref m8, .ref m9, .ref m10, .ref m11, .ref m12, .ref m13, .int mwh, .int mps, .ref m14, .ref m15, .long mlr, .int (nI mlt), .int (nI mlm), .ref m16, .int mln, .ref m17])), (m9, .inl (cL, 30, .inr (.inl gtn))), (m3, .inl (cI, 60, .inl gpl)), (m4, .inl (cI, 60, .inl gmk))] H1 := hPn
  replace hD : va_D A [(m0, .inr (9, [.int 0, .int (nI mt), .ref m1, .ref m2, .int mf, .int (nI mcd), .ref m3, .ref m4, .ref m5, .ref m6, .int (nI mev), .ref m7, .ref m8, .ref m9, .ref m10, .ref m11, .ref m12, .ref m13, .int mwh, .int mps, .ref m14, .ref m15, .long mlr, .int (nI mlt), .int (nI mlm), .ref m16, .int mln, .ref m17])), (m9, .inl (cL, 30, .inr (.inl gtn))), (m3, .inl (cI, 60, .inl gpl)), (m4, .inl (cI, 60, .inl gmk))] := hDn
  replace hS := hSn
  clear hPn hDn hSn
  refine lv_iload_n hx hb d_Mo_condition_II_5 rfl (lv_at hl 1 rfl) ?_
  refine lv_iconst (v := 0) hx hb d_Mo_condition_II_6 (by decide) ?_
  refine lv_aload_n hx hb d_Mo_condition_II_7 rfl (lv_at hl 0 rfl) ?_
  refine va_get (D := (dC, dI)) (ci := 9) (v := .int (nI mcd)) (C := "NetUnfolderModel") (T := T_Mo) (N := 28) hx hb ht in_Mo hown hK hP 0 rfl rfl 5 (by decide) (ht _ wd_4_5) (fun _ h9 => h9) rfl d_Mo_condition_II_8 ?_
  refine lv_iconst (v := 1) hx hb d_Mo_condition_II_11 (by decide) ?_
  refine lv_isub hx hb d_Mo_condition_II_12 ?_
  have hPc : va_P (dC, dI) clA [] _ := pu_P (H := H1)
  have hDc : va_D (fun _ => True) [] := pu_D
  have hFc := pu_free hS hA
  refine va_calli (va_runS (As := [.int x, .int 0, .int ((nI mcd) - 1)]) (rest := []) ⟨hx, hb, hml, hown, ht⟩ (c_Mo_outside l dC dI cI cL cZ _ x 0 ((nI mcd) - 1) ) (va_cwS 3 ht (good_S wd_4_90 wd_4_91 wd_1_10 wd_4_92) rfl rfl rfl (by decide +kernel) ⟨Nat.le_of_ble_eq_true rfl, Nat.le_of_ble_eq_true rfl⟩) ⟨fun a U g mk q => by obtain ⟨q0, q1, qP, qK, qD, qN⟩ := q; exact ⟨q0, q1, qP, va_K.moved (u := U) (U := U.calling g mk a) (Vm.Alike.refl U.vm) qK, qD, NwA.same (u := U) rfl qN⟩, fun U hU hW => ⟨rfl, by rw [hU], by rw [hU]; exact hPc, va_K.moved hW.alike hK, hDc.weaken (fun _ _ _ _ => trivial), NwA.warm hW hN⟩⟩ rfl rfl hl.1 rfl (lv_room (Nat.le_of_ble_eq_true rfl)) d_Mo_condition_II_13 ⟨Nat.le_of_ble_eq_true rfl, Nat.le_of_ble_eq_true rfl⟩) hS (fun q _ h => hFc q h) hFc (fun r4 u9 t9 H2 locs ht9 hvm hw3 hB hz1 hk1 hSn => ?_)
  replace hP : va_P (dC, dI) clA [(m0, .inr (9, [.int 0, .int (nI mt), .ref m1, .ref m2, .int mf, .int (nI mcd), .ref m3, .ref m4, .ref m5, .ref m6, .int (nI mev), .ref m7, .ref m8, .ref m9, .ref m10, .ref m11, .ref m12, .ref m13, .int mwh, .int mps, .ref m14, .ref m15, .long mlr, .int (nI mlt), .int (nI mlm), .ref m16, .int mln, .ref m17])), (m9, .inl (cL, 30, .inr (.inl gtn))), (m3, .inl (cI, 60, .inl gpl)), (m4, .inl (cI, 60, .inl gmk))] H2 := pu_keep hP hk1
  replace hS := hSn
  clear hSn hPc hDc hFc hk1 hz1 ht9 hvm hB
  refine W.cs (cells' := 0) (slots' := 0) rfl rfl ?_
  have hr5 := hw3
  refine lv_if_ne (tgt := 28) hx hb d_Mo_condition_II_16 (by decide) (fun hb6 => ?_) (fun hb6 => ?_)
  · skip
    refine lv_iconst (v := (-1)) hx hb d_Mo_condition_II_28 (by decide) ?_
    have hP9 := hP.sub (ws' := [(m0, .inr (9, [.int 0, .int (nI mt), .ref m1, .ref m2, .int mf, .int (nI mcd), .ref m3, .ref m4, .ref m5, .ref m6, .int (nI mev), .ref m7, .ref m8, .ref m9, .ref m10, .ref m11, .ref m12, .ref m13, .int mwh, .int mps, .ref m14, .ref m15, .long mlr, .int (nI mlt), .int (nI mlm), .ref m16, .int mln, .ref m17])), (m9, .inl (cL, 30, .inr (.inl gtn))), (m3, .inl (cI, 60, .inl gpl)), (m4, .inl (cI, 60, .inl gmk))]) [0, 1, 2, 3] rfl
    have hD9 := hD.sub (ws' := [(m0, .inr (9, [.int 0, .int (nI mt), .ref m1, .ref m2, .int mf, .int (nI mcd), .ref m3, .ref m4, .ref m5, .ref m6, .int (nI mev), .ref m7, .ref m8, .ref m9, .ref m10, .ref m11, .ref m12, .ref m13, .int mwh, .int mps, .ref m14, .ref m15, .long mlr, .int (nI mlt), .int (nI mlm), .ref m16, .int mln, .ref m17])), (m9, .inl (cL, 30, .inr (.inl gtn))), (m3, .inl (cI, 60, .inl gpl)), (m4, .inl (cI, 60, .inl gmk))]) [0, 1, 2, 3] (by decide) rfl
    subst hQ
    exact W.iret (v := (-1)) hx hb hr (fun t9 ht9 hW => ⟨⟨(-1), (), rfl, trivial, by rw [ht9]; exact hP9, hD9⟩, hS.F ht9⟩) hS.2.2 d_Mo_condition_II_29
  · skip
    have ho8 := out_0 hr5 hb6
    obtain ⟨j7, j7_l, rfl⟩ := ix_out (by omega) ho8.1 ho8.2
    refine lv_iload_n hx hb d_Mo_condition_II_19 rfl (lv_at hl 2 rfl) ?_
    refine lv_iconst (v := 0) hx hb d_Mo_condition_II_20 (by decide) ?_
    refine lv_iconst (v := 2) hx hb d_Mo_condition_II_21 (by decide) ?_
    have hPc : va_P (dC, dI) clA [] _ := pu_P (H := H2)
    have hDc : va_D (fun _ => True) [] := pu_D
    have hFc := pu_free hS hA
    refine va_calli (va_runS (As := [.int y, .int 0, .int 2]) (rest := []) ⟨hx, hb, hml, hown, ht⟩ (c_Mo_outside l dC dI cI cL cZ _ y 0 2 ) (va_cwS 3 ht (good_S wd_4_90 wd_4_91 wd_1_10 wd_4_92) rfl rfl rfl (by decide +kernel) ⟨Nat.le_of_ble_eq_true rfl, Nat.le_of_ble_eq_true rfl⟩) ⟨fun a U g mk q => by obtain ⟨q0, q1, qP, qK, qD, qN⟩ := q; exact ⟨q0, q1, qP, va_K.moved (u := U) (U := U.calling g mk a) (Vm.Alike.refl U.vm) qK, qD, NwA.same (u := U) rfl qN⟩, fun U hU hW => ⟨rfl, by rw [hU], by rw [hU]; exact hPc, va_K.moved hW.alike hK, hDc.weaken (fun _ _ _ _ => trivial), NwA.warm hW hN⟩⟩ rfl rfl hl.1 rfl (lv_room (Nat.le_of_ble_eq_true rfl)) d_Mo_condition_II_22 ⟨Nat.le_of_ble_eq_true rfl, Nat.le_of_ble_eq_true rfl⟩) hS (fun q _ h => hFc q h) hFc (fun r11 u9 t9 H9 locs ht9 hvm hw10 hB hz1 hk1 hSn => ?_)
    replace hP : va_P (dC, dI) clA [(m0, .inr (9, [.int 0, .int (nI mt), .ref m1, .ref m2, .int mf, .int (nI mcd), .ref m3, .ref m4, .ref m5, .ref m6, .int (nI mev), .ref m7, .ref m8, .ref m9, .ref m10, .ref m11, .ref m12, .ref m13, .int mwh, .int mps, .ref m14, .ref m15, .long mlr, .int (nI mlt), .int (nI mlm), .ref m16, .int mln, .ref m17])), (m9, .inl (cL, 30, .inr (.inl gtn))), (m3, .inl (cI, 60, .inl gpl)), (m4, .inl (cI, 60, .inl gmk))] H9 := pu_keep hP hk1
    replace hS := hSn
    clear hSn hPc hDc hFc hk1 hz1 ht9 hvm hB
    refine W.cs (cells' := 0) (slots' := 0) rfl rfl ?_
    have hr12 := hw10
    refine lv_if_eq (tgt := 30) hx hb d_Mo_condition_II_25 (by decide) (fun hb13 => ?_) (fun hb13 => ?_)
    · skip
      refine lv_iconst (v := 0) hx hb d_Mo_condition_II_30 (by decide) ?_
      refine lv_istore_n (lv' := [(3, .int 0), (0, .ref m0), (1, .int (nI j7)), (2, .int y)]) hx hb d_Mo_condition_II_31 rfl hl (by decide) rfl (fun ls hln => ?_)
      replace hl : lv_has ls 5 [(3, .int 0), (0, .ref m0), (1, .int (nI j7)), (2, .int y)] := hln
      clear hln
      refine lv_iconst (v := 0) hx hb d_Mo_condition_II_32 (by decide) ?_
      refine lv_istore (lv' := [(4, .int 0), (3, .int 0), (0, .ref m0), (1, .int (nI j7)), (2, .int y)]) hx hb d_Mo_condition_II_33 hl (by decide) rfl (fun ls hln => ?_)
      replace hl : lv_has ls 5 [(4, .int 0), (3, .int 0), (0, .ref m0), (1, .int (nI j7)), (2, .int y)] := hln
      clear hln
      have hloop14 : ∀ (n35 : Nat) (v : Int32) (i : Nat) (hi : i ≤ mev) (H : Heap) (locs : List Loc) (ls : Array Slot) (hl : lv_has ls 5 [(0, .ref m0), (1, .int (nI j7)), (2, .int y), (3, .int v), (4, .int (nI i))]) (hP : va_P (dC, dI) clA [(m0, .inr (9, [.int 0, .int (nI mt), .ref m1, .ref m2, .int mf, .int (nI mcd), .ref m3, .ref m4, .ref m5, .ref m6, .int (nI mev), .ref m7, .ref m8, .ref m9, .ref m10, .ref m11, .ref m12, .ref m13, .int mwh, .int mps, .ref m14, .ref m15, .long mlr, .int (nI mlt), .int (nI mlm), .ref m16, .int mln, .ref m17])), (m9, .inl (cL, 30, .inr (.inl gtn))), (m3, .inl (cI, 60, .inl gpl)), (m4, .inl (cI, 60, .inl gmk))] H) (hD : va_D A [(m0, .inr (9, [.int 0, .int (nI mt), .ref m1, .ref m2, .int mf, .int (nI mcd), .ref m3, .ref m4, .ref m5, .ref m6, .int (nI mev), .ref m7, .ref m8, .ref m9, .ref m10, .ref m11, .ref m12, .ref m13, .int mwh, .int mps, .ref m14, .ref m15, .long mlr, .int (nI mlt), .int (nI mlm), .ref m16, .int mln, .ref m17])), (m9, .inl (cL, 30, .inr (.inl gtn))), (m3, .inl (cI, 60, .inl gpl)), (m4, .inl (cI, 60, .inl gmk))]) (hS : va_S A s.heap H locs) (hm35 : mev - i < n35), W p l e (headSpec (Cond.code y_Mo_condition_II prog_11_method_40_code 5 (some .int) :: wsA) { frames := 1, cells := 0, slots := 0, locals := 22 }).room s m ([.ref m0, .int (nI j7), .int y] : List Value).toArray below meth c H locs 0 0 Q (F0 m 35 ls []) := by
        clear hl hP hD hS
        intro n35
        induction n35 with
        | zero => intro v i hi H locs ls hl hP hD hS hm; exact absurd hm (Nat.not_lt_zero _)
        | succ n35 hloop14_ih =>
          intro v i hi H locs ls hl hP hD hS hm35
          refine lv_iload hx hb d_Mo_condition_II_35 (lv_at hl 4 rfl) ?_
          refine lv_aload_n hx hb d_Mo_condition_II_37 rfl (lv_at hl 0 rfl) ?_
          refine va_get (D := (dC, dI)) (ci := 9) (v := .int (nI mev)) (C := "NetUnfolderModel") (T := T_Mo) (N := 28) hx hb ht in_Mo hown hK hP 0 rfl rfl 10 (by decide) (ht _ wd_4_10) (fun _ h9 => h9) rfl d_Mo_condition_II_38 ?_
          refine lv_icmp_ge (tgt := 72) hx hb d_Mo_condition_II_41 (by decide) (fun hb15 => ?_) (fun hb15 => ?_)
          · skip
            replace hb15 := cv_le (a := mev) (b := i) (by omega) (by omega) hb15
            refine lv_iload_n hx hb d_Mo_condition_II_72 rfl (lv_at hl 2 rfl) ?_
            refine lv_if_ne (tgt := 85) hx hb d_Mo_condition_II_73 (by decide) (fun hb16 => ?_) (fun hb16 => ?_)
            · skip
              refine lv_iload_n hx hb d_Mo_condition_II_85 rfl (lv_at hl 2 rfl) ?_
              refine lv_iconst (v := 1) hx hb d_Mo_condition_II_86 (by decide) ?_
              refine lv_icmp_ne (tgt := 99) hx hb d_Mo_condition_II_87 (by decide) (fun hb17 => ?_) (fun hb17 => ?_)
              · skip
                refine lv_iload_n hx hb d_Mo_condition_II_99 rfl (lv_at hl 3 rfl) ?_
                have hP9 := hP.sub (ws' := [(m0, .inr (9, [.int 0, .int (nI mt), .ref m1, .ref m2, .int mf, .int (nI mcd), .ref m3, .ref m4, .ref m5, .ref m6, .int (nI mev), .ref m7, .ref m8, .ref m9, .ref m10, .ref m11, .ref m12, .ref m13, .int mwh, .int mps, .ref m14, .ref m15, .long mlr, .int (nI mlt), .int (nI mlm), .ref m16, .int mln, .ref m17])), (m9, .inl (cL, 30, .inr (.inl gtn))), (m3, .inl (cI, 60, .inl gpl)), (m4, .inl (cI, 60, .inl gmk))]) [0, 1, 2, 3] rfl
                have hD9 := hD.sub (ws' := [(m0, .inr (9, [.int 0, .int (nI mt), .ref m1, .ref m2, .int mf, .int (nI mcd), .ref m3, .ref m4, .ref m5, .ref m6, .int (nI mev), .ref m7, .ref m8, .ref m9, .ref m10, .ref m11, .ref m12, .ref m13, .int mwh, .int mps, .ref m14, .ref m15, .long mlr, .int (nI mlt), .int (nI mlm), .ref m16, .int mln, .ref m17])), (m9, .inl (cL, 30, .inr (.inl gtn))), (m3, .inl (cI, 60, .inl gpl)), (m4, .inl (cI, 60, .inl gmk))]) [0, 1, 2, 3] (by decide) rfl
                subst hQ
                exact W.iret (v := v) hx hb hr (fun t9 ht9 hW => ⟨⟨v, (), rfl, trivial, by rw [ht9]; exact hP9, hD9⟩, hS.F ht9⟩) hS.2.2 d_Mo_condition_II_100
              · skip
                refine lv_aload_n hx hb d_Mo_condition_II_90 rfl (lv_at hl 0 rfl) ?_
                refine va_get (D := (dC, dI)) (ci := 9) (v := .ref m4) (C := "NetUnfolderModel") (T := T_Mo) (N := 28) hx hb ht in_Mo hown hK hP 0 rfl rfl 7 (by decide) (ht _ wd_4_7) (fun _ h9 => h9) rfl d_Mo_condition_II_91 ?_
                refine lv_iload_n hx hb d_Mo_condition_II_94 rfl (lv_at hl 1 rfl) ?_
                refine na_iald (k := j7) hx hb hK hP 3 0 rfl rfl (by omega) (by decide) d_Mo_condition_II_95 ?_
                refine lv_goto (tgt := 100) hx hb d_Mo_condition_II_96 (by decide) ?_
                have hP9 := hP.sub (ws' := [(m0, .inr (9, [.int 0, .int (nI mt), .ref m1, .ref m2, .int mf, .int (nI mcd), .ref m3, .ref m4, .ref m5, .ref m6, .int (nI mev), .ref m7, .ref m8, .ref m9, .ref m10, .ref m11, .ref m12, .ref m13, .int mwh, .int mps, .ref m14, .ref m15, .long mlr, .int (nI mlt), .int (nI mlm), .ref m16, .int mln, .ref m17])), (m9, .inl (cL, 30, .inr (.inl gtn))), (m3, .inl (cI, 60, .inl gpl)), (m4, .inl (cI, 60, .inl gmk))]) [0, 1, 2, 3] rfl
                have hD9 := hD.sub (ws' := [(m0, .inr (9, [.int 0, .int (nI mt), .ref m1, .ref m2, .int mf, .int (nI mcd), .ref m3, .ref m4, .ref m5, .ref m6, .int (nI mev), .ref m7, .ref m8, .ref m9, .ref m10, .ref m11, .ref m12, .ref m13, .int mwh, .int mps, .ref m14, .ref m15, .long mlr, .int (nI mlt), .int (nI mlm), .ref m16, .int mln, .ref m17])), (m9, .inl (cL, 30, .inr (.inl gtn))), (m3, .inl (cI, 60, .inl gpl)), (m4, .inl (cI, 60, .inl gmk))]) [0, 1, 2, 3] (by decide) rfl
                subst hQ
                exact W.iret (v := gmk j7) hx hb hr (fun t9 ht9 hW => ⟨⟨gmk j7, (), rfl, trivial, by rw [ht9]; exact hP9, hD9⟩, hS.F ht9⟩) hS.2.2 d_Mo_condition_II_100
            · skip
              refine lv_aload_n hx hb d_Mo_condition_II_76 rfl (lv_at hl 0 rfl) ?_
              refine va_get (D := (dC, dI)) (ci := 9) (v := .ref m3) (C := "NetUnfolderModel") (T := T_Mo) (N := 28) hx hb ht in_Mo hown hK hP 0 rfl rfl 6 (by decide) (ht _ wd_4_6) (fun _ h9 => h9) rfl d_Mo_condition_II_77 ?_
              refine lv_iload_n hx hb d_Mo_condition_II_80 rfl (lv_at hl 1 rfl) ?_
              refine na_iald (k := j7) hx hb hK hP 2 0 rfl rfl (by omega) (by decide) d_Mo_condition_II_81 ?_
              refine lv_goto (tgt := 100) hx hb d_Mo_condition_II_82 (by decide) ?_
              have hP9 := hP.sub (ws' := [(m0, .inr (9, [.int 0, .int (nI mt), .ref m1, .ref m2, .int mf, .int (nI mcd), .ref m3, .ref m4, .ref m5, .ref m6, .int (nI mev), .ref m7, .ref m8, .ref m9, .ref m10, .ref m11, .ref m12, .ref m13, .int mwh, .int mps, .ref m14, .ref m15, .long mlr, .int (nI mlt), .int (nI mlm), .ref m16, .int mln, .ref m17])), (m9, .inl (cL, 30, .inr (.inl gtn))), (m3, .inl (cI, 60, .inl gpl)), (m4, .inl (cI, 60, .inl gmk))]) [0, 1, 2, 3] rfl
              have hD9 := hD.sub (ws' := [(m0, .inr (9, [.int 0, .int (nI mt), .ref m1, .ref m2, .int mf, .int (nI mcd), .ref m3, .ref m4, .ref m5, .ref m6, .int (nI mev), .ref m7, .ref m8, .ref m9, .ref m10, .ref m11, .ref m12, .ref m13, .int mwh, .int mps, .ref m14, .ref m15, .long mlr, .int (nI mlt), .int (nI mlm), .ref m16, .int mln, .ref m17])), (m9, .inl (cL, 30, .inr (.inl gtn))), (m3, .inl (cI, 60, .inl gpl)), (m4, .inl (cI, 60, .inl gmk))]) [0, 1, 2, 3] (by decide) rfl
              subst hQ
              exact W.iret (v := gpl j7) hx hb hr (fun t9 ht9 hW => ⟨⟨gpl j7, (), rfl, trivial, by rw [ht9]; exact hP9, hD9⟩, hS.F ht9⟩) hS.2.2 d_Mo_condition_II_100
          · skip
            replace hb15 := cv_nle (a := mev) (b := i) (by omega) (by omega) hb15
            refine lv_aload_n hx hb d_Mo_condition_II_44 rfl (lv_at hl 0 rfl) ?_
            refine va_get (D := (dC, dI)) (ci := 9) (v := .ref m9) (C := "NetUnfolderModel") (T := T_Mo) (N := 28) hx hb ht in_Mo hown hK hP 0 rfl rfl 13 (by decide) (ht _ wd_4_13) (fun _ h9 => h9) rfl d_Mo_condition_II_45 ?_
            refine lv_iload hx hb d_Mo_condition_II_48 (lv_at hl 4 rfl) ?_
            refine na_lald (k := i) hx hb hK hP 1 1 rfl rfl (by omega) (by decide) d_Mo_condition_II_50 ?_
            refine lv_iload_n hx hb d_Mo_condition_II_51 rfl (lv_at hl 1 rfl) ?_
            have hPc : va_P (dC, dI) clA [] _ := pu_P (H := H)
            have hDc : va_D (fun _ => True) [] := pu_D
            have hFc := pu_free hS hA
            refine va_calli (va_runS (As := [.long (gtn i), .int (nI j7)]) (rest := []) ⟨hx, hb, hml, hown, ht⟩ (c_Mo_has l dC dI cI cL cZ _ (gtn i) j7 (by first | assumption | omega | trivial | exact AllLt.zero | exact AllN.zero | exact AllM.zero | exact Or.inl rfl | exact Or.inr rfl)) (va_cwS 2 ht (good_S wd_4_121 wd_4_122 wd_1_10 wd_4_123) rfl rfl rfl (by decide +kernel) ⟨Nat.le_of_ble_eq_true rfl, Nat.le_of_ble_eq_true rfl⟩) ⟨fun a U g mk q => by obtain ⟨q0, q1, qP, qK, qD, qN⟩ := q; exact ⟨q0, q1, qP, va_K.moved (u := U) (U := U.calling g mk a) (Vm.Alike.refl U.vm) qK, qD, NwA.same (u := U) rfl qN⟩, fun U hU hW => ⟨rfl, by rw [hU], by rw [hU]; exact hPc, va_K.moved hW.alike hK, hDc.weaken (fun _ _ _ _ => trivial), NwA.warm hW hN⟩⟩ rfl rfl hl.1 rfl (lv_room (Nat.le_of_ble_eq_true rfl)) d_Mo_condition_II_52 ⟨Nat.le_of_ble_eq_true rfl, Nat.le_of_ble_eq_true rfl⟩) hS (fun q _ h => hFc q h) hFc (fun r20 u9 t9 H18 locs ht9 hvm hw19 hB hz1 hk1 hSn => ?_)
            replace hP : va_P (dC, dI) clA [(m0, .inr (9, [.int 0, .int (nI mt), .ref m1, .ref m2, .int mf, .int (nI mcd), .ref m3, .ref m4, .ref m5, .ref m6, .int (nI mev), .ref m7, .ref m8, .ref m9, .ref m10, .ref m11, .ref m12, .ref m13, .int mwh, .int mps, .ref m14, .ref m15, .long mlr, .int (nI mlt), .int (nI mlm), .ref m16, .int mln, .ref m17])), (m9, .inl (cL, 30, .inr (.inl gtn))), (m3, .inl (cI, 60, .inl gpl)), (m4, .inl (cI, 60, .inl gmk))] H18 := pu_keep hP hk1
            replace hS := hSn
            clear hSn hPc hDc hFc hk1 hz1 ht9 hvm hB
            refine W.cs (cells' := 0) (slots' := 0) rfl rfl ?_
            subst hw19
            refine lv_if_eq (tgt := 64) hx hb d_Mo_condition_II_55 (by decide) (fun hb21 => ?_) (fun hb21 => ?_)
            · skip
              refine lv_iload_n hx hb d_Mo_condition_II_64 rfl (lv_at hl 3 rfl) ?_
              refine lv_istore_n (lv' := [(3, .int v), (0, .ref m0), (1, .int (nI j7)), (2, .int y), (4, .int (nI i))]) hx hb d_Mo_condition_II_65 rfl hl (by decide) rfl (fun ls hln => ?_)
              replace hl : lv_has ls 5 [(3, .int v), (0, .ref m0), (1, .int (nI j7)), (2, .int y), (4, .int (nI i))] := hln
              clear hln
              refine lv_iinc (k := 4) (v := nI (i + 1)) (lv' := [(4, .int (nI (i + 1))), (3, .int v), (0, .ref m0), (1, .int (nI j7)), (2, .int y)]) hx hb d_Mo_condition_II_66 hl rfl (nI_1 _) (by decide) rfl (fun ls hln => ?_)
              replace hl : lv_has ls 5 [(4, .int (nI (i + 1))), (3, .int v), (0, .ref m0), (1, .int (nI j7)), (2, .int y)] := hln
              clear hln
              refine lv_goto (tgt := 35) hx hb d_Mo_condition_II_69 (by decide) ?_
              exact hloop14_ih v (i + 1) (by first | assumption | omega | trivial | exact AllLt.zero | exact AllN.zero | exact AllM.zero | exact Or.inl rfl | exact Or.inr rfl) _ _ ls (lv_sub hl [2, 3, 4, 1, 0] rfl) (hP.sub [0, 1, 2, 3] rfl) (hD.sub [0, 1, 2, 3] (by decide) rfl) hS (by omega)
            · skip
              refine lv_iload_n hx hb d_Mo_condition_II_58 rfl (lv_at hl 3 rfl) ?_
              refine lv_iconst (v := 1) hx hb d_Mo_condition_II_59 (by decide) ?_
              refine lv_iadd hx hb d_Mo_condition_II_60 ?_
              refine lv_goto (tgt := 65) hx hb d_Mo_condition_II_61 (by decide) ?_
              refine lv_istore_n (lv' := [(3, .int (v + 1)), (0, .ref m0), (1, .int (nI j7)), (2, .int y), (4, .int (nI i))]) hx hb d_Mo_condition_II_65 rfl hl (by decide) rfl (fun ls hln => ?_)
              replace hl : lv_has ls 5 [(3, .int (v + 1)), (0, .ref m0), (1, .int (nI j7)), (2, .int y), (4, .int (nI i))] := hln
              clear hln
              refine lv_iinc (k := 4) (v := nI (i + 1)) (lv' := [(4, .int (nI (i + 1))), (3, .int (v + 1)), (0, .ref m0), (1, .int (nI j7)), (2, .int y)]) hx hb d_Mo_condition_II_66 hl rfl (nI_1 _) (by decide) rfl (fun ls hln => ?_)
              replace hl : lv_has ls 5 [(4, .int (nI (i + 1))), (3, .int (v + 1)), (0, .ref m0), (1, .int (nI j7)), (2, .int y)] := hln
              clear hln
              refine lv_goto (tgt := 35) hx hb d_Mo_condition_II_69 (by decide) ?_
              exact hloop14_ih (v + 1) (i + 1) (by first | assumption | omega | trivial | exact AllLt.zero | exact AllN.zero | exact AllM.zero | exact Or.inl rfl | exact Or.inr rfl) _ _ ls (lv_sub hl [2, 3, 4, 1, 0] rfl) (hP.sub [0, 1, 2, 3] rfl) (hD.sub [0, 1, 2, 3] (by decide) rfl) hS (by omega)
      exact hloop14 ((mev - 0) + 1) 0 0 (by first | assumption | omega | trivial | exact AllLt.zero | exact AllN.zero | exact AllM.zero | exact Or.inl rfl | exact Or.inr rfl) _ _ ls (lv_sub hl [2, 3, 4, 1, 0] rfl) hP hD hS (Nat.lt_succ_self _)
    · skip
      refine lv_iconst (v := (-1)) hx hb d_Mo_condition_II_28 (by decide) ?_
      have hP9 := hP.sub (ws' := [(m0, .inr (9, [.int 0, .int (nI mt), .ref m1, .ref m2, .int mf, .int (nI mcd), .ref m3, .ref m4, .ref m5, .ref m6, .int (nI mev), .ref m7, .ref m8, .ref m9, .ref m10, .ref m11, .ref m12, .ref m13, .int mwh, .int mps, .ref m14, .ref m15, .long mlr, .int (nI mlt), .int (nI mlm), .ref m16, .int mln, .ref m17])), (m9, .inl (cL, 30, .inr (.inl gtn))), (m3, .inl (cI, 60, .inl gpl)), (m4, .inl (cI, 60, .inl gmk))]) [0, 1, 2, 3] rfl
      have hD9 := hD.sub (ws' := [(m0, .inr (9, [.int 0, .int (nI mt), .ref m1, .ref m2, .int mf, .int (nI mcd), .ref m3, .ref m4, .ref m5, .ref m6, .int (nI mev), .ref m7, .ref m8, .ref m9, .ref m10, .ref m11, .ref m12, .ref m13, .int mwh, .int mps, .ref m14, .ref m15, .long mlr, .int (nI mlt), .int (nI mlm), .ref m16, .int mln, .ref m17])), (m9, .inl (cL, 30, .inr (.inl gtn))), (m3, .inl (cI, 60, .inl gpl)), (m4, .inl (cI, 60, .inl gmk))]) [0, 1, 2, 3] (by decide) rfl
      subst hQ
      exact W.iret (v := (-1)) hx hb hr (fun t9 ht9 hW => ⟨⟨(-1), (), rfl, trivial, by rw [ht9]; exact hP9, hD9⟩, hS.F ht9⟩) hS.2.2 d_Mo_condition_II_29

set_option maxHeartbeats 4000000 in
set_option maxRecDepth 100000 in
theorem c_Mo_concurrent (l : Launch) (dC : Nat → ClassId) (dI : Nat → Nat → Nat) (cI cL cZ : ClassId) (sz : Nat) (m0 : Nat) (m1 : Nat) (m2 : Nat) (m3 : Nat) (m4 : Nat) (m5 : Nat) (m6 : Nat) (m7 : Nat) (m8 : Nat) (m9 : Nat) (m10 : Nat) (m11 : Nat) (m12 : Nat) (m13 : Nat) (m14 : Nat) (m15 : Nat) (m16 : Nat) (m17 : Nat) (mth : Int32) (mt : Nat) (mf : Int32) (mcd : Nat) (mev : Nat) (mwh : Int32) (mps : Int32) (mlr : Int64) (mlt : Nat) (mlm : Nat) (mln : Int32) (gbs : Nat → Int64) (x : Int32) (y : Int32) (hcd : mcd ≤ 60) : Met l y_Mo_concurrent (Cond.code y_Mo_concurrent prog_11_method_41_code 3 (some .boolean) :: wsA) { frames := 1, cells := 0, slots := 0, locals := 22 } (va_Pc [.ref m0, .int x, .int y] (fun U => U.heap.size = sz ∧ va_P (dC, dI) clA [(m0, .inr (9, [.int mth, .int (nI mt), .ref m1, .ref m2, .int mf, .int (nI mcd), .ref m3, .ref m4, .ref m5, .ref m6, .int (nI mev), .ref m7, .ref m8, .ref m9, .ref m10, .ref m11, .ref m12, .ref m13, .int mwh, .int mps, .ref m14, .ref m15, .long mlr, .int (nI mlt), .int (nI mlm), .ref m16, .int mln, .ref m17])), (m6, .inl (cL, 60, .inr (.inl gbs)))] U.heap ∧ va_K (dC, dI) clA [(cI, .int), (cL, .long), (cZ, .boolean)] U ∧ va_D (fun _ => True) [(m0, .inr (9, [.int mth, .int (nI mt), .ref m1, .ref m2, .int mf, .int (nI mcd), .ref m3, .ref m4, .ref m5, .ref m6, .int (nI mev), .ref m7, .ref m8, .ref m9, .ref m10, .ref m11, .ref m12, .ref m13, .int mwh, .int mps, .ref m14, .ref m15, .long mlr, .int (nI mlt), .int (nI mlm), .ref m16, .int mln, .ref m17])), (m6, .inl (cL, 60, .inr (.inl gbs)))] ∧ NwA U)) (va_Qi (fun r (_ : Unit) => True) (fun _ t => va_P (dC, dI) clA [(m0, .inr (9, [.int 0, .int (nI mt), .ref m1, .ref m2, .int mf, .int (nI mcd), .ref m3, .ref m4, .ref m5, .ref m6, .int (nI mev), .ref m7, .ref m8, .ref m9, .ref m10, .ref m11, .ref m12, .ref m13, .int mwh, .int mps, .ref m14, .ref m15, .long mlr, .int (nI mlt), .int (nI mlm), .ref m16, .int mln, .ref m17])), (m6, .inl (cL, 60, .inr (.inl gbs)))] t.heap ∧ va_D (va_A [(m0, .inr (9, [.int mth, .int (nI mt), .ref m1, .ref m2, .int mf, .int (nI mcd), .ref m3, .ref m4, .ref m5, .ref m6, .int (nI mev), .ref m7, .ref m8, .ref m9, .ref m10, .ref m11, .ref m12, .ref m13, .int mwh, .int mps, .ref m14, .ref m15, .long mlr, .int (nI mlt), .int (nI mlm), .ref m16, .int mln, .ref m17])), (m6, .inl (cL, 60, .inr (.inl gbs)))] sz) [(m0, .inr (9, [.int 0, .int (nI mt), .ref m1, .ref m2, .int mf, .int (nI mcd), .ref m3, .ref m4, .ref m5, .ref m6, .int (nI mev), .ref m7, .ref m8, .ref m9, .ref m10, .ref m11, .ref m12, .ref m13, .int mwh, .int mps, .ref m14, .ref m15, .long mlr, .int (nI mlt), .int (nI mlm), .ref m16, .int mln, .ref m17])), (m6, .inl (cL, 60, .inr (.inl gbs)))]) (va_A [(m0, .inr (9, [.int mth, .int (nI mt), .ref m1, .ref m2, .int mf, .int (nI mcd), .ref m3, .ref m4, .ref m5, .ref m6, .int (nI mev), .ref m7, .ref m8, .ref m9, .ref m10, .ref m11, .ref m12, .ref m13, .int mwh, .int mps, .ref m14, .ref m15, .long mlr, .int (nI mlt), .int (nI mlm), .ref m16, .int mln, .ref m17])), (m6, .inl (cL, 60, .inr (.inl gbs)))] sz)) 0 0 (va_A [(m0, .inr (9, [.int mth, .int (nI mt), .ref m1, .ref m2, .int mf, .int (nI mcd), .ref m3, .ref m4, .ref m5, .ref m6, .int (nI mev), .ref m7, .ref m8, .ref m9, .ref m10, .ref m11, .ref m12, .ref m13, .int mwh, .int mps, .ref m14, .ref m15, .long mlr, .int (nI mlt), .int (nI mlm), .ref m16, .int mln, .ref m17])), (m6, .inl (cL, 60, .inr (.inl gbs)))] sz) := by
  refine Met.ofW (cc := prog_11_method_41_code) (maxL := 3) (ret := (some .boolean)) (by decide) rfl ?_
  intro p e s m args below meth c s₁ B hml hv
  obtain ⟨rfl, hsz, hP, hK, hD0, hN⟩ := hv
  have hx := B.exec
  have hb := B.bytes
  have hr := B.returns
  have ht : ∀ w ∈ wsA, w.before _ s = true := fun w h => atoms_spec (ws := (Cond.code y_Mo_concurrent prog_11_method_41_code 3 (some .boolean) :: wsA)) B.pre w (List.mem_cons_of_mem _ h)
  have hown : s.vm.findClass "NetUnfolderModel" = some m.cls := findClass_of_methodNamed B.named
  have hlocks := B.notSynchronized
  subst hsz
  have hD := hD0.self (sz := s.heap.size)
  generalize hAe : va_A [(m0, .inr (9, [.int mth, .int (nI mt), .ref m1, .ref m2, .int mf, .int (nI mcd), .ref m3, .ref m4, .ref m5, .ref m6, .int (nI mev), .ref m7, .ref m8, .ref m9, .ref m10, .ref m11, .ref m12, .ref m13, .int mwh, .int mps, .ref m14, .ref m15, .long mlr, .int (nI mlt), .int (nI mlm), .ref m16, .int mln, .ref m17])), (m6, .inl (cL, 60, .inr (.inl gbs)))] s.heap.size = A at hD ⊢
  have hA : ∀ q : Nat, s.heap.size ≤ q → A q := fun q h => by rw [← hAe]; exact Or.inr h
  have hS : va_S A s.heap s.heap [] := va_S.rf
  have hl := lv_entry ([.ref m0, .int x, .int y]) (n := 3) (Nat.le_of_ble_eq_true rfl)
  rw [lg_entry_eq]
  generalize (lg_sl ([.ref m0, .int x, .int y]) ++ List.replicate (3 - (lg_sl ([.ref m0, .int x, .int y])).length) Slot.unset).toArray = ls at hl ⊢
  replace hl : lv_has ls 3 [(0, .ref m0), (1, .int x), (2, .int y)] := hl
  refine W_Q (fun Q hQ => ?_)
  refine lv_aload_n hx hb d_Mo_concurrent_0 rfl (lv_at hl 0 rfl) ?_
  refine lv_iconst (v := 0) hx hb d_Mo_concurrent_1 (by decide) ?_
  refine va_put (D := (dC, dI)) (ci := 9) (v := .int 0) (ty := .int) (C := "NetUnfolderModel") (T := T_Mo) (N := 28) hx hb ht in_Mo ty_Mo ok_Mo nm_Mo hown hK hP hD hS 0 rfl rfl 0 (by decide) (ht _ wd_4_0) (fun _ h9 => h9) rfl (by decide +kernel) rfl rfl (Nat.le_of_ble_eq_true rfl) d_Mo_concurrent_2 (fun H1 locs hPn hDn hSn => ?_)
  replace hP : va_P (dC, dI) clA [(m0, .inr (9, [.int 0, .int (nI mt), .ref m1, .ref m2, .int mf, .int (nI mcd), .ref m3, .ref m4, .ref m5, .ref m6, .int (nI mev), .ref m7, .ref m8, .ref m9, .ref m10, .ref m11, .ref m12, .ref m13, .int mwh, .int mps, .ref m14, .ref m15, .long mlr, .int (nI mlt), .int (nI mlm), .ref m16, .int mln, .ref m17])), (m6, .inl (cL, 60, .inr (.inl gbs)))] H1 := hPn
  replace hD : va_D A [(m0, .inr (9, [.int 0, .int (nI mt), .ref m1, .ref m2, .int mf, .int (nI mcd), .ref m3, .ref m4, .ref m5, .ref m6, .int (nI mev), .ref m7, .ref m8, .ref m9, .ref m10, .ref m11, .ref m12, .ref m13, .int mwh, .int mps, .ref m14, .ref m15, .long mlr, .int (nI mlt), .int (nI mlm), .ref m16, .int mln, .ref m17])), (m6, .inl (cL, 60, .inr (.inl gbs)))] := hDn
  replace hS := hSn
  clear hPn hDn hSn
  refine lv_iload_n hx hb d_Mo_concurrent_5 rfl (lv_at hl 1 rfl) ?_
  refine lv_iconst (v := 0) hx hb d_Mo_concurrent_6 (by decide) ?_
  refine lv_aload_n hx hb d_Mo_concurrent_7 rfl (lv_at hl 0 rfl) ?_
  refine va_get (D := (dC, dI)) (ci := 9) (v := .int (nI mcd)) (C := "NetUnfolderModel") (T := T_Mo) (N := 28) hx hb ht in_Mo hown hK hP 0 rfl rfl 5 (by decide) (ht _ wd_4_5) (fun _ h9 => h9) rfl d_Mo_concurrent_8 ?_
  refine lv_iconst (v := 1) hx hb d_Mo_concurrent_11 (by decide) ?_
  refine lv_isub hx hb d_Mo_concurrent_12 ?_
  have hPc : va_P (dC, dI) clA [] _ := pu_P (H := H1)
  have hDc : va_D (fun _ => True) [] := pu_D
  have hFc := pu_free hS hA
  refine va_calli (va_runS (As := [.int x, .int 0, .int ((nI mcd) - 1)]) (rest := []) ⟨hx, hb, hml, hown, ht⟩ (c_Mo_outside l dC dI cI cL cZ _ x 0 ((nI mcd) - 1) ) (va_cwS 3 ht (good_S wd_4_90 wd_4_91 wd_1_10 wd_4_92) rfl rfl rfl (by decide +kernel) ⟨Nat.le_of_ble_eq_true rfl, Nat.le_of_ble_eq_true rfl⟩) ⟨fun a U g mk q => by obtain ⟨q0, q1, qP, qK, qD, qN⟩ := q; exact ⟨q0, q1, qP, va_K.moved (u := U) (U := U.calling g mk a) (Vm.Alike.refl U.vm) qK, qD, NwA.same (u := U) rfl qN⟩, fun U hU hW => ⟨rfl, by rw [hU], by rw [hU]; exact hPc, va_K.moved hW.alike hK, hDc.weaken (fun _ _ _ _ => trivial), NwA.warm hW hN⟩⟩ rfl rfl hl.1 rfl (lv_room (Nat.le_of_ble_eq_true rfl)) d_Mo_concurrent_13 ⟨Nat.le_of_ble_eq_true rfl, Nat.le_of_ble_eq_true rfl⟩) hS (fun q _ h => hFc q h) hFc (fun r4 u9 t9 H2 locs ht9 hvm hw3 hB hz1 hk1 hSn => ?_)
  replace hP : va_P (dC, dI) clA [(m0, .inr (9, [.int 0, .int (nI mt), .ref m1, .ref m2, .int mf, .int (nI mcd), .ref m3, .ref m4, .ref m5, .ref m6, .int (nI mev), .ref m7, .ref m8, .ref m9, .ref m10, .ref m11, .ref m12, .ref m13, .int mwh, .int mps, .ref m14, .ref m15, .long mlr, .int (nI mlt), .int (nI mlm), .ref m16, .int mln, .ref m17])), (m6, .inl (cL, 60, .inr (.inl gbs)))] H2 := pu_keep hP hk1
  replace hS := hSn
  clear hSn hPc hDc hFc hk1 hz1 ht9 hvm hB
  refine W.cs (cells' := 0) (slots' := 0) rfl rfl ?_
  have hr5 := hw3
  refine lv_if_ne (tgt := 50) hx hb d_Mo_concurrent_16 (by decide) (fun hb6 => ?_) (fun hb6 => ?_)
  · skip
    refine lv_iconst (v := 0) hx hb d_Mo_concurrent_50 (by decide) ?_
    have hP9 := hP.sub (ws' := [(m0, .inr (9, [.int 0, .int (nI mt), .ref m1, .ref m2, .int mf, .int (nI mcd), .ref m3, .ref m4, .ref m5, .ref m6, .int (nI mev), .ref m7, .ref m8, .ref m9, .ref m10, .ref m11, .ref m12, .ref m13, .int mwh, .int mps, .ref m14, .ref m15, .long mlr, .int (nI mlt), .int (nI mlm), .ref m16, .int mln, .ref m17])), (m6, .inl (cL, 60, .inr (.inl gbs)))]) [0, 1] rfl
    have hD9 := hD.sub (ws' := [(m0, .inr (9, [.int 0, .int (nI mt), .ref m1, .ref m2, .int mf, .int (nI mcd), .ref m3, .ref m4, .ref m5, .ref m6, .int (nI mev), .ref m7, .ref m8, .ref m9, .ref m10, .ref m11, .ref m12, .ref m13, .int mwh, .int mps, .ref m14, .ref m15, .long mlr, .int (nI mlt), .int (nI mlm), .ref m16, .int mln, .ref m17])), (m6, .inl (cL, 60, .inr (.inl gbs)))]) [0, 1] (by decide) rfl
    subst hQ
    exact W.zret (v := 0) hx hb hr rfl (fun t9 ht9 hW => ⟨⟨0, (), rfl, trivial, by rw [ht9]; exact hP9, hD9⟩, hS.F ht9⟩) hS.2.2 d_Mo_concurrent_51
  · skip
    have ho8 := out_0 hr5 hb6
    obtain ⟨j7, j7_l, rfl⟩ := ix_out (by omega) ho8.1 ho8.2
    refine lv_iload_n hx hb d_Mo_concurrent_19 rfl (lv_at hl 2 rfl) ?_
    refine lv_iconst (v := 0) hx hb d_Mo_concurrent_20 (by decide) ?_
    refine lv_aload_n hx hb d_Mo_concurrent_21 rfl (lv_at hl 0 rfl) ?_
    refine va_get (D := (dC, dI)) (ci := 9) (v := .int (nI mcd)) (C := "NetUnfolderModel") (T := T_Mo) (N := 28) hx hb ht in_Mo hown hK hP 0 rfl rfl 5 (by decide) (ht _ wd_4_5) (fun _ h9 => h9) rfl d_Mo_concurrent_22 ?_
    refine lv_iconst (v := 1) hx hb d_Mo_concurrent_25 (by decide) ?_
    refine lv_isub hx hb d_Mo_concurrent_26 ?_
    have hPc : va_P (dC, dI) clA [] _ := pu_P (H := H2)
    have hDc : va_D (fun _ => True) [] := pu_D
    have hFc := pu_free hS hA
    refine va_calli (va_runS (As := [.int y, .int 0, .int ((nI mcd) - 1)]) (rest := []) ⟨hx, hb, hml, hown, ht⟩ (c_Mo_outside l dC dI cI cL cZ _ y 0 ((nI mcd) - 1) ) (va_cwS 3 ht (good_S wd_4_90 wd_4_91 wd_1_10 wd_4_92) rfl rfl rfl (by decide +kernel) ⟨Nat.le_of_ble_eq_true rfl, Nat.le_of_ble_eq_true rfl⟩) ⟨fun a U g mk q => by obtain ⟨q0, q1, qP, qK, qD, qN⟩ := q; exact ⟨q0, q1, qP, va_K.moved (u := U) (U := U.calling g mk a) (Vm.Alike.refl U.vm) qK, qD, NwA.same (u := U) rfl qN⟩, fun U hU hW => ⟨rfl, by rw [hU], by rw [hU]; exact hPc, va_K.moved hW.alike hK, hDc.weaken (fun _ _ _ _ => trivial), NwA.warm hW hN⟩⟩ rfl rfl hl.1 rfl (lv_room (Nat.le_of_ble_eq_true rfl)) d_Mo_concurrent_27 ⟨Nat.le_of_ble_eq_true rfl, Nat.le_of_ble_eq_true rfl⟩) hS (fun q _ h => hFc q h) hFc (fun r11 u9 t9 H9 locs ht9 hvm hw10 hB hz1 hk1 hSn => ?_)
    replace hP : va_P (dC, dI) clA [(m0, .inr (9, [.int 0, .int (nI mt), .ref m1, .ref m2, .int mf, .int (nI mcd), .ref m3, .ref m4, .ref m5, .ref m6, .int (nI mev), .ref m7, .ref m8, .ref m9, .ref m10, .ref m11, .ref m12, .ref m13, .int mwh, .int mps, .ref m14, .ref m15, .long mlr, .int (nI mlt), .int (nI mlm), .ref m16, .int mln, .ref m17])), (m6, .inl (cL, 60, .inr (.inl gbs)))] H9 := pu_keep hP hk1
    replace hS := hSn
    clear hSn hPc hDc hFc hk1 hz1 ht9 hvm hB
    refine W.cs (cells' := 0) (slots' := 0) rfl rfl ?_
    have hr12 := hw10
    refine lv_if_ne (tgt := 50) hx hb d_Mo_concurrent_30 (by decide) (fun hb13 => ?_) (fun hb13 => ?_)
    · skip
      refine lv_iconst (v := 0) hx hb d_Mo_concurrent_50 (by decide) ?_
      have hP9 := hP.sub (ws' := [(m0, .inr (9, [.int 0, .int (nI mt), .ref m1, .ref m2, .int mf, .int (nI mcd), .ref m3, .ref m4, .ref m5, .ref m6, .int (nI mev), .ref m7, .ref m8, .ref m9, .ref m10, .ref m11, .ref m12, .ref m13, .int mwh, .int mps, .ref m14, .ref m15, .long mlr, .int (nI mlt), .int (nI mlm), .ref m16, .int mln, .ref m17])), (m6, .inl (cL, 60, .inr (.inl gbs)))]) [0, 1] rfl
      have hD9 := hD.sub (ws' := [(m0, .inr (9, [.int 0, .int (nI mt), .ref m1, .ref m2, .int mf, .int (nI mcd), .ref m3, .ref m4, .ref m5, .ref m6, .int (nI mev), .ref m7, .ref m8, .ref m9, .ref m10, .ref m11, .ref m12, .ref m13, .int mwh, .int mps, .ref m14, .ref m15, .long mlr, .int (nI mlt), .int (nI mlm), .ref m16, .int mln, .ref m17])), (m6, .inl (cL, 60, .inr (.inl gbs)))]) [0, 1] (by decide) rfl
      subst hQ
      exact W.zret (v := 0) hx hb hr rfl (fun t9 ht9 hW => ⟨⟨0, (), rfl, trivial, by rw [ht9]; exact hP9, hD9⟩, hS.F ht9⟩) hS.2.2 d_Mo_concurrent_51
    · skip
      have ho15 := out_0 hr12 hb13
      obtain ⟨j14, j14_l, rfl⟩ := ix_out (by omega) ho15.1 ho15.2
      refine lv_aload_n hx hb d_Mo_concurrent_33 rfl (lv_at hl 0 rfl) ?_
      refine va_get (D := (dC, dI)) (ci := 9) (v := .ref m6) (C := "NetUnfolderModel") (T := T_Mo) (N := 28) hx hb ht in_Mo hown hK hP 0 rfl rfl 9 (by decide) (ht _ wd_4_9) (fun _ h9 => h9) rfl d_Mo_concurrent_34 ?_
      refine lv_iload_n hx hb d_Mo_concurrent_37 rfl (lv_at hl 1 rfl) ?_
      refine na_lald (k := j7) hx hb hK hP 1 1 rfl rfl (by omega) (by decide) d_Mo_concurrent_38 ?_
      refine lv_iload_n hx hb d_Mo_concurrent_39 rfl (lv_at hl 2 rfl) ?_
      have hPc : va_P (dC, dI) clA [] _ := pu_P (H := H9)
      have hDc : va_D (fun _ => True) [] := pu_D
      have hFc := pu_free hS hA
      refine va_calli (va_runS (As := [.long (gbs j7), .int (nI j14)]) (rest := []) ⟨hx, hb, hml, hown, ht⟩ (c_Mo_has l dC dI cI cL cZ _ (gbs j7) j14 (by first | assumption | omega | trivial | exact AllLt.zero | exact AllN.zero | exact AllM.zero | exact Or.inl rfl | exact Or.inr rfl)) (va_cwS 2 ht (good_S wd_4_121 wd_4_122 wd_1_10 wd_4_123) rfl rfl rfl (by decide +kernel) ⟨Nat.le_of_ble_eq_true rfl, Nat.le_of_ble_eq_true rfl⟩) ⟨fun a U g mk q => by obtain ⟨q0, q1, qP, qK, qD, qN⟩ := q; exact ⟨q0, q1, qP, va_K.moved (u := U) (U := U.calling g mk a) (Vm.Alike.refl U.vm) qK, qD, NwA.same (u := U) rfl qN⟩, fun U hU hW => ⟨rfl, by rw [hU], by rw [hU]; exact hPc, va_K.moved hW.alike hK, hDc.weaken (fun _ _ _ _ => trivial), NwA.warm hW hN⟩⟩ rfl rfl hl.1 rfl (lv_room (Nat.le_of_ble_eq_true rfl)) d_Mo_concurrent_40 ⟨Nat.le_of_ble_eq_true rfl, Nat.le_of_ble_eq_true rfl⟩) hS (fun q _ h => hFc q h) hFc (fun r18 u9 t9 H16 locs ht9 hvm hw17 hB hz1 hk1 hSn => ?_)
      replace hP : va_P (dC, dI) clA [(m0, .inr (9, [.int 0, .int (nI mt), .ref m1, .ref m2, .int mf, .int (nI mcd), .ref m3, .ref m4, .ref m5, .ref m6, .int (nI mev), .ref m7, .ref m8, .ref m9, .ref m10, .ref m11, .ref m12, .ref m13, .int mwh, .int mps, .ref m14, .ref m15, .long mlr, .int (nI mlt), .int (nI mlm), .ref m16, .int mln, .ref m17])), (m6, .inl (cL, 60, .inr (.inl gbs)))] H16 := pu_keep hP hk1
      replace hS := hSn
      clear hSn hPc hDc hFc hk1 hz1 ht9 hvm hB
      refine W.cs (cells' := 0) (slots' := 0) rfl rfl ?_
      subst hw17
      refine lv_if_eq (tgt := 50) hx hb d_Mo_concurrent_43 (by decide) (fun hb19 => ?_) (fun hb19 => ?_)
      · skip
        refine lv_iconst (v := 0) hx hb d_Mo_concurrent_50 (by decide) ?_
        have hP9 := hP.sub (ws' := [(m0, .inr (9, [.int 0, .int (nI mt), .ref m1, .ref m2, .int mf, .int (nI mcd), .ref m3, .ref m4, .ref m5, .ref m6, .int (nI mev), .ref m7, .ref m8, .ref m9, .ref m10, .ref m11, .ref m12, .ref m13, .int mwh, .int mps, .ref m14, .ref m15, .long mlr, .int (nI mlt), .int (nI mlm), .ref m16, .int mln, .ref m17])), (m6, .inl (cL, 60, .inr (.inl gbs)))]) [0, 1] rfl
        have hD9 := hD.sub (ws' := [(m0, .inr (9, [.int 0, .int (nI mt), .ref m1, .ref m2, .int mf, .int (nI mcd), .ref m3, .ref m4, .ref m5, .ref m6, .int (nI mev), .ref m7, .ref m8, .ref m9, .ref m10, .ref m11, .ref m12, .ref m13, .int mwh, .int mps, .ref m14, .ref m15, .long mlr, .int (nI mlt), .int (nI mlm), .ref m16, .int mln, .ref m17])), (m6, .inl (cL, 60, .inr (.inl gbs)))]) [0, 1] (by decide) rfl
        subst hQ
        exact W.zret (v := 0) hx hb hr rfl (fun t9 ht9 hW => ⟨⟨0, (), rfl, trivial, by rw [ht9]; exact hP9, hD9⟩, hS.F ht9⟩) hS.2.2 d_Mo_concurrent_51
      · skip
        refine lv_iconst (v := 1) hx hb d_Mo_concurrent_46 (by decide) ?_
        refine lv_goto (tgt := 51) hx hb d_Mo_concurrent_47 (by decide) ?_
        have hP9 := hP.sub (ws' := [(m0, .inr (9, [.int 0, .int (nI mt), .ref m1, .ref m2, .int mf, .int (nI mcd), .ref m3, .ref m4, .ref m5, .ref m6, .int (nI mev), .ref m7, .ref m8, .ref m9, .ref m10, .ref m11, .ref m12, .ref m13, .int mwh, .int mps, .ref m14, .ref m15, .long mlr, .int (nI mlt), .int (nI mlm), .ref m16, .int mln, .ref m17])), (m6, .inl (cL, 60, .inr (.inl gbs)))]) [0, 1] rfl
        have hD9 := hD.sub (ws' := [(m0, .inr (9, [.int 0, .int (nI mt), .ref m1, .ref m2, .int mf, .int (nI mcd), .ref m3, .ref m4, .ref m5, .ref m6, .int (nI mev), .ref m7, .ref m8, .ref m9, .ref m10, .ref m11, .ref m12, .ref m13, .int mwh, .int mps, .ref m14, .ref m15, .long mlr, .int (nI mlt), .int (nI mlm), .ref m16, .int mln, .ref m17])), (m6, .inl (cL, 60, .inr (.inl gbs)))]) [0, 1] (by decide) rfl
        subst hQ
        exact W.zret (v := 1) hx hb hr rfl (fun t9 ht9 hW => ⟨⟨1, (), rfl, trivial, by rw [ht9]; exact hP9, hD9⟩, hS.F ht9⟩) hS.2.2 d_Mo_concurrent_51

set_option maxHeartbeats 4000000 in
set_option maxRecDepth 100000 in
theorem c_Mo_play (l : Launch) (dC : Nat → ClassId) (dI : Nat → Nat → Nat) (cI cL cZ : ClassId) (sz : Nat) (m0 : Nat) (m1 : Nat) (m2 : Nat) (m3 : Nat) (m4 : Nat) (m5 : Nat) (m6 : Nat) (m7 : Nat) (m8 : Nat) (m9 : Nat) (m10 : Nat) (m11 : Nat) (m12 : Nat) (m13 : Nat) (m14 : Nat) (m15 : Nat) (m16 : Nat) (m17 : Nat) (mth : Int32) (mt : Nat) (mf : Int32) (mcd : Nat) (mev : Nat) (mwh : Int32) (mps : Int32) (mlr : Int64) (mlt : Nat) (mlm : Nat) (mln : Int32) (mp : Nat → Int32) (mq : Nat → Int32) (gwy : Nat → Int32) (x : Int32) (hmy : MlI mln) (hgwy : AllLt gwy 62 8) : Met l y_Mo_play (Cond.code y_Mo_play prog_11_method_36_code 4 (some .int) :: wsA) { frames := 1, cells := 0, slots := 0, locals := 22 } (va_Pc [.ref m0, .int x] (fun U => U.heap.size = sz ∧ va_P (dC, dI) clA [(m0, .inr (9, [.int mth, .int (nI mt), .ref m1, .ref m2, .int mf, .int (nI mcd), .ref m3, .ref m4, .ref m5, .ref m6, .int (nI mev), .ref m7, .ref m8, .ref m9, .ref m10, .ref m11, .ref m12, .ref m13, .int mwh, .int mps, .ref m14, .ref m15, .long mlr, .int (nI mlt), .int (nI mlm), .ref m16, .int mln, .ref m17])), (m1, .inl (cI, 8, .inl mp)), (m2, .inl (cI, 8, .inl mq)), (m17, .inl (cI, 62, .inl gwy))] U.heap ∧ va_K (dC, dI) clA [(cI, .int), (cL, .long), (cZ, .boolean)] U ∧ va_D (fun _ => True) [(m0, .inr (9, [.int mth, .int (nI mt), .ref m1, .ref m2, .int mf, .int (nI mcd), .ref m3, .ref m4, .ref m5, .ref m6, .int (nI mev), .ref m7, .ref m8, .ref m9, .ref m10, .ref m11, .ref m12, .ref m13, .int mwh, .int mps, .ref m14, .ref m15, .long mlr, .int (nI mlt), .int (nI mlm), .ref m16, .int mln, .ref m17])), (m1, .inl (cI, 8, .inl mp)), (m2, .inl (cI, 8, .inl mq)), (m17, .inl (cI, 62, .inl gwy))] ∧ NwA U)) (va_Qi (fun r (_ : Unit) => True) (fun _ t => ∃ (mth1 : Int32), ∃ (mln1 : Int32), (MlI mln1) ∧ va_P (dC, dI) clA [(m0, .inr (9, [.int mth1, .int (nI mt), .ref m1, .ref m2, .int mf, .int (nI mcd), .ref m3, .ref m4, .ref m5, .ref m6, .int (nI mev), .ref m7, .ref m8, .ref m9, .ref m10, .ref m11, .ref m12, .ref m13, .int mwh, .int mps, .ref m14, .ref m15, .long mlr, .int (nI mlt), .int (nI mlm), .ref m16, .int mln1, .ref m17])), (m1, .inl (cI, 8, .inl mp)), (m2, .inl (cI, 8, .inl mq)), (m17, .inl (cI, 62, .inl gwy))] t.heap ∧ va_D (va_A [(m0, .inr (9, [.int mth, .int (nI mt), .ref m1, .ref m2, .int mf, .int (nI mcd), .ref m3, .ref m4, .ref m5, .ref m6, .int (nI mev), .ref m7, .ref m8, .ref m9, .ref m10, .ref m11, .ref m12, .ref m13, .int mwh, .int mps, .ref m14, .ref m15, .long mlr, .int (nI mlt), .int (nI mlm), .ref m16, .int mln, .ref m17])), (m1, .inl (cI, 8, .inl mp)), (m2, .inl (cI, 8, .inl mq)), (m17, .inl (cI, 62, .inl gwy))] sz) [(m0, .inr (9, [.int mth1, .int (nI mt), .ref m1, .ref m2, .int mf, .int (nI mcd), .ref m3, .ref m4, .ref m5, .ref m6, .int (nI mev), .ref m7, .ref m8, .ref m9, .ref m10, .ref m11, .ref m12, .ref m13, .int mwh, .int mps, .ref m14, .ref m15, .long mlr, .int (nI mlt), .int (nI mlm), .ref m16, .int mln1, .ref m17])), (m1, .inl (cI, 8, .inl mp)), (m2, .inl (cI, 8, .inl mq)), (m17, .inl (cI, 62, .inl gwy))]) (va_A [(m0, .inr (9, [.int mth, .int (nI mt), .ref m1, .ref m2, .int mf, .int (nI mcd), .ref m3, .ref m4, .ref m5, .ref m6, .int (nI mev), .ref m7, .ref m8, .ref m9, .ref m10, .ref m11, .ref m12, .ref m13, .int mwh, .int mps, .ref m14, .ref m15, .long mlr, .int (nI mlt), .int (nI mlm), .ref m16, .int mln, .ref m17])), (m1, .inl (cI, 8, .inl mp)), (m2, .inl (cI, 8, .inl mq)), (m17, .inl (cI, 62, .inl gwy))] sz)) 0 0 (va_A [(m0, .inr (9, [.int mth, .int (nI mt), .ref m1, .ref m2, .int mf, .int (nI mcd), .ref m3, .ref m4, .ref m5, .ref m6, .int (nI mev), .ref m7, .ref m8, .ref m9, .ref m10, .ref m11, .ref m12, .ref m13, .int mwh, .int mps, .ref m14, .ref m15, .long mlr, .int (nI mlt), .int (nI mlm), .ref m16, .int mln, .ref m17])), (m1, .inl (cI, 8, .inl mp)), (m2, .inl (cI, 8, .inl mq)), (m17, .inl (cI, 62, .inl gwy))] sz) := by
  refine Met.ofW (cc := prog_11_method_36_code) (maxL := 4) (ret := (some .int)) (by decide) rfl ?_
  intro p e s m args below meth c s₁ B hml hv
  obtain ⟨rfl, hsz, hP, hK, hD0, hN⟩ := hv
  have hx := B.exec
  have hb := B.bytes
  have hr := B.returns
  have ht : ∀ w ∈ wsA, w.before _ s = true := fun w h => atoms_spec (ws := (Cond.code y_Mo_play prog_11_method_36_code 4 (some .int) :: wsA)) B.pre w (List.mem_cons_of_mem _ h)
  have hown : s.vm.findClass "NetUnfolderModel" = some m.cls := findClass_of_methodNamed B.named
  have hlocks := B.notSynchronized
  subst hsz
  have hD := hD0.self (sz := s.heap.size)
  generalize hAe : va_A [(m0, .inr (9, [.int mth, .int (nI mt), .ref m1, .ref m2, .int mf, .int (nI mcd), .ref m3, .ref m4, .ref m5, .ref m6, .int (nI mev), .ref m7, .ref m8, .ref m9, .ref m10, .ref m11, .ref m12, .ref m13, .int mwh, .int mps, .ref m14, .ref m15, .long mlr, .int (nI mlt), .int (nI mlm), .ref m16, .int mln, .ref m17])), (m1, .inl (cI, 8, .inl mp)), (m2, .inl (cI, 8, .inl mq)), (m17, .inl (cI, 62, .inl gwy))] s.heap.size = A at hD ⊢
  have hA : ∀ q : Nat, s.heap.size ≤ q → A q := fun q h => by rw [← hAe]; exact Or.inr h
  have hS : va_S A s.heap s.heap [] := va_S.rf
  have hl := lv_entry ([.ref m0, .int x]) (n := 4) (Nat.le_of_ble_eq_true rfl)
  rw [lg_entry_eq]
  generalize (lg_sl ([.ref m0, .int x]) ++ List.replicate (4 - (lg_sl ([.ref m0, .int x])).length) Slot.unset).toArray = ls at hl ⊢
  replace hl : lv_has ls 4 [(0, .ref m0), (1, .int x)] := hl
  refine W_Q (fun Q hQ => ?_)
  refine lv_iload_n hx hb d_Mo_play_0 rfl (lv_at hl 1 rfl) ?_
  refine lv_if_lt (tgt := 20) hx hb d_Mo_play_1 (by decide) (fun hb1 => ?_) (fun hb1 => ?_)
  · skip
    refine lv_aload_n hx hb d_Mo_play_20 rfl (lv_at hl 0 rfl) ?_
    refine lv_iconst (v := 1) hx hb d_Mo_play_21 (by decide) ?_
    have hPc := hP.sub (ws' := [(m0, .inr (9, [.int mth, .int (nI mt), .ref m1, .ref m2, .int mf, .int (nI mcd), .ref m3, .ref m4, .ref m5, .ref m6, .int (nI mev), .ref m7, .ref m8, .ref m9, .ref m10, .ref m11, .ref m12, .ref m13, .int mwh, .int mps, .ref m14, .ref m15, .long mlr, .int (nI mlt), .int (nI mlm), .ref m16, .int mln, .ref m17]))]) [0] rfl
    have hDc := hD.sub (ws' := [(m0, .inr (9, [.int mth, .int (nI mt), .ref m1, .ref m2, .int mf, .int (nI mcd), .ref m3, .ref m4, .ref m5, .ref m6, .int (nI mev), .ref m7, .ref m8, .ref m9, .ref m10, .ref m11, .ref m12, .ref m13, .int mwh, .int mps, .ref m14, .ref m15, .long mlr, .int (nI mlt), .int (nI mlm), .ref m16, .int mln, .ref m17]))]) [0] (by decide) rfl
    have hFc := va_free (wc := [(m0, .inr (9, [.int mth, .int (nI mt), .ref m1, .ref m2, .int mf, .int (nI mcd), .ref m3, .ref m4, .ref m5, .ref m6, .int (nI mev), .ref m7, .ref m8, .ref m9, .ref m10, .ref m11, .ref m12, .ref m13, .int mwh, .int mps, .ref m14, .ref m15, .long mlr, .int (nI mlt), .int (nI mlm), .ref m16, .int mln, .ref m17]))]) hD hS hA [0] rfl
    refine va_calli (va_runV (C := "NetUnfolderModel") (As := [.int 1]) (rest := []) ⟨hx, hb, hml, hown, ht⟩ (c_Mo_refuse l dC dI cI cL cZ _ m0 m1 m2 m3 m4 m5 m6 m7 m8 m9 m10 m11 m12 m13 m14 m15 m16 m17 mth mt mf mcd mev mwh mps mlr mlt mlm mln 1 ) (cwV 1 ht (good_V wd_4_216 wd_4_218 ws_Mo_refuse wd_1_10 wd_4_219) rfl rfl rfl (by decide +kernel) ⟨Nat.le_of_ble_eq_true rfl, Nat.le_of_ble_eq_true rfl⟩) ⟨fun a U g mk q => by obtain ⟨q0, q1, qP, qK, qD, qN⟩ := q; exact ⟨q0, q1, qP, va_K.moved (u := U) (U := U.calling g mk a) (Vm.Alike.refl U.vm) qK, qD, NwA.same (u := U) rfl qN⟩, (va_recv (q0 := 0) (ci := 9) hK hP rfl rfl), fun U hU hW => ⟨rfl, by rw [hU], by rw [hU]; exact hPc, va_K.moved hW.alike hK, hDc.weaken (fun _ _ _ _ => trivial), NwA.warm hW hN⟩⟩ rfl rfl hl.1 rfl (lv_room (Nat.le_of_ble_eq_true rfl)) d_Mo_play_22 ⟨Nat.le_of_ble_eq_true rfl, Nat.le_of_ble_eq_true rfl⟩) hS (fun q _ h => hFc q h) hFc (fun r4 u9 t9 H2 locs ht9 hvm hw3 hB hz1 hk1 hSn => ?_)
    obtain ⟨hP1, hD1⟩ := hB
    rw [ht9] at hP1
    obtain ⟨hPn, hDn⟩ := va_join (wr := [(m1, .inl (cI, 8, .inl mp)), (m2, .inl (cI, 8, .inl mq)), (m17, .inl (cI, 62, .inl gwy))]) (w1 := [(m0, .inr (9, [.int 1, .int (nI mt), .ref m1, .ref m2, .int mf, .int (nI mcd), .ref m3, .ref m4, .ref m5, .ref m6, .int (nI mev), .ref m7, .ref m8, .ref m9, .ref m10, .ref m11, .ref m12, .ref m13, .int mwh, .int mps, .ref m14, .ref m15, .long mlr, .int (nI mlt), .int (nI mlm), .ref m16, .int mln, .ref m17]))]) hP hD [0] [1, 2, 3] rfl rfl (by decide) (by decide) hk1 hFc hP1 hD1
    replace hP : va_P (dC, dI) clA [(m1, .inl (cI, 8, .inl mp)), (m2, .inl (cI, 8, .inl mq)), (m17, .inl (cI, 62, .inl gwy)), (m0, .inr (9, [.int 1, .int (nI mt), .ref m1, .ref m2, .int mf, .int (nI mcd), .ref m3, .ref m4, .ref m5, .ref m6, .int (nI mev), .ref m7, .ref m8, .ref m9, .ref m10, .ref m11, .ref m12, .ref m13, .int mwh, .int mps, .ref m14, .ref m15, .long mlr, .int (nI mlt), .int (nI mlm), .ref m16, .int mln, .ref m17]))] H2 := hPn
    replace hD : va_D A [(m1, .inl (cI, 8, .inl mp)), (m2, .inl (cI, 8, .inl mq)), (m17, .inl (cI, 62, .inl gwy)), (m0, .inr (9, [.int 1, .int (nI mt), .ref m1, .ref m2, .int mf, .int (nI mcd), .ref m3, .ref m4, .ref m5, .ref m6, .int (nI mev), .ref m7, .ref m8, .ref m9, .ref m10, .ref m11, .ref m12, .ref m13, .int mwh, .int mps, .ref m14, .ref m15, .long mlr, .int (nI mlt), .int (nI mlm), .ref m16, .int mln, .ref m17]))] := hDn
    replace hS := hSn
    clear hPn hDn hSn
    clear hPc hDc hFc hP1 hD1 hk1 hz1 ht9 hvm
    refine W.cs (cells' := 0) (slots' := 0) rfl rfl ?_
    subst hw3
    have hP9 := hP.sub (ws' := [(m0, .inr (9, [.int 1, .int (nI mt), .ref m1, .ref m2, .int mf, .int (nI mcd), .ref m3, .ref m4, .ref m5, .ref m6, .int (nI mev), .ref m7, .ref m8, .ref m9, .ref m10, .ref m11, .ref m12, .ref m13, .int mwh, .int mps, .ref m14, .ref m15, .long mlr, .int (nI mlt), .int (nI mlm), .ref m16, .int mln, .ref m17])), (m1, .inl (cI, 8, .inl mp)), (m2, .inl (cI, 8, .inl mq)), (m17, .inl (cI, 62, .inl gwy))]) [3, 0, 1, 2] rfl
    have hD9 := hD.sub (ws' := [(m0, .inr (9, [.int 1, .int (nI mt), .ref m1, .ref m2, .int mf, .int (nI mcd), .ref m3, .ref m4, .ref m5, .ref m6, .int (nI mev), .ref m7, .ref m8, .ref m9, .ref m10, .ref m11, .ref m12, .ref m13, .int mwh, .int mps, .ref m14, .ref m15, .long mlr, .int (nI mlt), .int (nI mlm), .ref m16, .int mln, .ref m17])), (m1, .inl (cI, 8, .inl mp)), (m2, .inl (cI, 8, .inl mq)), (m17, .inl (cI, 62, .inl gwy))]) [3, 0, 1, 2] (by decide) rfl
    subst hQ
    exact W.iret (v := 0) hx hb hr (fun t9 ht9 hW => ⟨⟨0, (), rfl, trivial, 1, mln, hmy, by rw [ht9]; exact hP9, hD9⟩, hS.F ht9⟩) hS.2.2 d_Mo_play_25
  · skip
    refine lv_aload_n hx hb d_Mo_play_4 rfl (lv_at hl 0 rfl) ?_
    refine va_get (D := (dC, dI)) (ci := 9) (v := .int mln) (C := "NetUnfolderModel") (T := T_Mo) (N := 28) hx hb ht in_Mo hown hK hP 0 rfl rfl 26 (by decide) (ht _ wd_4_26) (fun _ h9 => h9) rfl d_Mo_play_5 ?_
    refine lv_iconst (v := (-1)) hx hb d_Mo_play_8 (by decide) ?_
    refine lv_icmp_eq (tgt := 26) hx hb d_Mo_play_9 (by decide) (fun hb5 => ?_) (fun hb5 => ?_)
    · skip
      subst hb5
      refine lv_aload_n hx hb d_Mo_play_26 rfl (lv_at hl 0 rfl) ?_
      refine va_get (D := (dC, dI)) (ci := 9) (v := .int (-1)) (C := "NetUnfolderModel") (T := T_Mo) (N := 28) hx hb ht in_Mo hown hK hP 0 rfl rfl 26 (by decide) (ht _ wd_4_26) (fun _ h9 => h9) rfl d_Mo_play_27 ?_
      refine lv_iconst (v := (-1)) hx hb d_Mo_play_30 (by decide) ?_
      refine lv_icmp_ne (tgt := 40) hx hb d_Mo_play_31 (by decide) (fun h => (h (by decide)).elim) (fun _ => ?_)
      refine lv_aload_n hx hb d_Mo_play_34 rfl (lv_at hl 0 rfl) ?_
      refine lv_iconst (v := 2) hx hb d_Mo_play_35 (by decide) ?_
      have hPc := hP.sub (ws' := [(m0, .inr (9, [.int mth, .int (nI mt), .ref m1, .ref m2, .int mf, .int (nI mcd), .ref m3, .ref m4, .ref m5, .ref m6, .int (nI mev), .ref m7, .ref m8, .ref m9, .ref m10, .ref m11, .ref m12, .ref m13, .int mwh, .int mps, .ref m14, .ref m15, .long mlr, .int (nI mlt), .int (nI mlm), .ref m16, .int (-1), .ref m17]))]) [0] rfl
      have hDc := hD.sub (ws' := [(m0, .inr (9, [.int mth, .int (nI mt), .ref m1, .ref m2, .int mf, .int (nI mcd), .ref m3, .ref m4, .ref m5, .ref m6, .int (nI mev), .ref m7, .ref m8, .ref m9, .ref m10, .ref m11, .ref m12, .ref m13, .int mwh, .int mps, .ref m14, .ref m15, .long mlr, .int (nI mlt), .int (nI mlm), .ref m16, .int (-1), .ref m17]))]) [0] (by decide) rfl
      have hFc := va_free (wc := [(m0, .inr (9, [.int mth, .int (nI mt), .ref m1, .ref m2, .int mf, .int (nI mcd), .ref m3, .ref m4, .ref m5, .ref m6, .int (nI mev), .ref m7, .ref m8, .ref m9, .ref m10, .ref m11, .ref m12, .ref m13, .int mwh, .int mps, .ref m14, .ref m15, .long mlr, .int (nI mlt), .int (nI mlm), .ref m16, .int (-1), .ref m17]))]) hD hS hA [0] rfl
      refine va_calli (va_runV (C := "NetUnfolderModel") (As := [.int 2]) (rest := []) ⟨hx, hb, hml, hown, ht⟩ (c_Mo_refuse l dC dI cI cL cZ _ m0 m1 m2 m3 m4 m5 m6 m7 m8 m9 m10 m11 m12 m13 m14 m15 m16 m17 mth mt mf mcd mev mwh mps mlr mlt mlm (-1) 2 ) (cwV 1 ht (good_V wd_4_216 wd_4_218 ws_Mo_refuse wd_1_10 wd_4_219) rfl rfl rfl (by decide +kernel) ⟨Nat.le_of_ble_eq_true rfl, Nat.le_of_ble_eq_true rfl⟩) ⟨fun a U g mk q => by obtain ⟨q0, q1, qP, qK, qD, qN⟩ := q; exact ⟨q0, q1, qP, va_K.moved (u := U) (U := U.calling g mk a) (Vm.Alike.refl U.vm) qK, qD, NwA.same (u := U) rfl qN⟩, (va_recv (q0 := 0) (ci := 9) hK hP rfl rfl), fun U hU hW => ⟨rfl, by rw [hU], by rw [hU]; exact hPc, va_K.moved hW.alike hK, hDc.weaken (fun _ _ _ _ => trivial), NwA.warm hW hN⟩⟩ rfl rfl hl.1 rfl (lv_room (Nat.le_of_ble_eq_true rfl)) d_Mo_play_36 ⟨Nat.le_of_ble_eq_true rfl, Nat.le_of_ble_eq_true rfl⟩) hS (fun q _ h => hFc q h) hFc (fun r8 u9 t9 H6 locs ht9 hvm hw7 hB hz1 hk1 hSn => ?_)
      obtain ⟨hP1, hD1⟩ := hB
      rw [ht9] at hP1
      obtain ⟨hPn, hDn⟩ := va_join (wr := [(m1, .inl (cI, 8, .inl mp)), (m2, .inl (cI, 8, .inl mq)), (m17, .inl (cI, 62, .inl gwy))]) (w1 := [(m0, .inr (9, [.int 2, .int (nI mt), .ref m1, .ref m2, .int mf, .int (nI mcd), .ref m3, .ref m4, .ref m5, .ref m6, .int (nI mev), .ref m7, .ref m8, .ref m9, .ref m10, .ref m11, .ref m12, .ref m13, .int mwh, .int mps, .ref m14, .ref m15, .long mlr, .int (nI mlt), .int (nI mlm), .ref m16, .int (-1), .ref m17]))]) hP hD [0] [1, 2, 3] rfl rfl (by decide) (by decide) hk1 hFc hP1 hD1
      replace hP : va_P (dC, dI) clA [(m1, .inl (cI, 8, .inl mp)), (m2, .inl (cI, 8, .inl mq)), (m17, .inl (cI, 62, .inl gwy)), (m0, .inr (9, [.int 2, .int (nI mt), .ref m1, .ref m2, .int mf, .int (nI mcd), .ref m3, .ref m4, .ref m5, .ref m6, .int (nI mev), .ref m7, .ref m8, .ref m9, .ref m10, .ref m11, .ref m12, .ref m13, .int mwh, .int mps, .ref m14, .ref m15, .long mlr, .int (nI mlt), .int (nI mlm), .ref m16, .int (-1), .ref m17]))] H6 := hPn
      replace hD : va_D A [(m1, .inl (cI, 8, .inl mp)), (m2, .inl (cI, 8, .inl mq)), (m17, .inl (cI, 62, .inl gwy)), (m0, .inr (9, [.int 2, .int (nI mt), .ref m1, .ref m2, .int mf, .int (nI mcd), .ref m3, .ref m4, .ref m5, .ref m6, .int (nI mev), .ref m7, .ref m8, .ref m9, .ref m10, .ref m11, .ref m12, .ref m13, .int mwh, .int mps, .ref m14, .ref m15, .long mlr, .int (nI mlt), .int (nI mlm), .ref m16, .int (-1), .ref m17]))] := hDn
      replace hS := hSn
      clear hPn hDn hSn
      clear hPc hDc hFc hP1 hD1 hk1 hz1 ht9 hvm
      refine W.cs (cells' := 0) (slots' := 0) rfl rfl ?_
      subst hw7
      have hP9 := hP.sub (ws' := [(m0, .inr (9, [.int 2, .int (nI mt), .ref m1, .ref m2, .int mf, .int (nI mcd), .ref m3, .ref m4, .ref m5, .ref m6, .int (nI mev), .ref m7, .ref m8, .ref m9, .ref m10, .ref m11, .ref m12, .ref m13, .int mwh, .int mps, .ref m14, .ref m15, .long mlr, .int (nI mlt), .int (nI mlm), .ref m16, .int (-1), .ref m17])), (m1, .inl (cI, 8, .inl mp)), (m2, .inl (cI, 8, .inl mq)), (m17, .inl (cI, 62, .inl gwy))]) [3, 0, 1, 2] rfl
      have hD9 := hD.sub (ws' := [(m0, .inr (9, [.int 2, .int (nI mt), .ref m1, .ref m2, .int mf, .int (nI mcd), .ref m3, .ref m4, .ref m5, .ref m6, .int (nI mev), .ref m7, .ref m8, .ref m9, .ref m10, .ref m11, .ref m12, .ref m13, .int mwh, .int mps, .ref m14, .ref m15, .long mlr, .int (nI mlt), .int (nI mlm), .ref m16, .int (-1), .ref m17])), (m1, .inl (cI, 8, .inl mp)), (m2, .inl (cI, 8, .inl mq)), (m17, .inl (cI, 62, .inl gwy))]) [3, 0, 1, 2] (by decide) rfl
      subst hQ
      exact W.iret (v := 0) hx hb hr (fun t9 ht9 hW => ⟨⟨0, (), rfl, trivial, 2, (-1), hmy, by rw [ht9]; exact hP9, hD9⟩, hS.F ht9⟩) hS.2.2 d_Mo_play_39
    · skip
      obtain ⟨n9, n9_l, rfl⟩ := hmy.nat hb5
      refine lv_iload_n hx hb d_Mo_play_12 rfl (lv_at hl 1 rfl) ?_
      refine lv_aload_n hx hb d_Mo_play_13 rfl (lv_at hl 0 rfl) ?_
      refine va_get (D := (dC, dI)) (ci := 9) (v := .int (nI n9)) (C := "NetUnfolderModel") (T := T_Mo) (N := 28) hx hb ht in_Mo hown hK hP 0 rfl rfl 26 (by decide) (ht _ wd_4_26) (fun _ h9 => h9) rfl d_Mo_play_14 ?_
      refine lv_icmp_le (tgt := 26) hx hb d_Mo_play_17 (by decide) (fun hb10 => ?_) (fun hb10 => ?_)
      · skip
        obtain ⟨j11, j11_l, rfl⟩ := ix_le (by omega) hb1 hb10
        refine lv_aload_n hx hb d_Mo_play_26 rfl (lv_at hl 0 rfl) ?_
        refine va_get (D := (dC, dI)) (ci := 9) (v := .int (nI n9)) (C := "NetUnfolderModel") (T := T_Mo) (N := 28) hx hb ht in_Mo hown hK hP 0 rfl rfl 26 (by decide) (ht _ wd_4_26) (fun _ h9 => h9) rfl d_Mo_play_27 ?_
        refine lv_iconst (v := (-1)) hx hb d_Mo_play_30 (by decide) ?_
        refine lv_icmp_ne (tgt := 40) hx hb d_Mo_play_31 (by decide) (fun hb12 => ?_) (fun hb12 => ?_)
        · skip
          refine lv_aload_n hx hb d_Mo_play_40 rfl (lv_at hl 0 rfl) ?_
          refine va_get (D := (dC, dI)) (ci := 9) (v := .int mf) (C := "NetUnfolderModel") (T := T_Mo) (N := 28) hx hb ht in_Mo hown hK hP 0 rfl rfl 4 (by decide) (ht _ wd_4_4) (fun _ h9 => h9) rfl d_Mo_play_41 ?_
          refine lv_istore_n (lv' := [(2, .int mf), (0, .ref m0), (1, .int (nI j11))]) hx hb d_Mo_play_44 rfl hl (by decide) rfl (fun ls hln => ?_)
          replace hl : lv_has ls 4 [(2, .int mf), (0, .ref m0), (1, .int (nI j11))] := hln
          clear hln
          refine lv_iconst (v := 0) hx hb d_Mo_play_45 (by decide) ?_
          refine lv_istore_n (lv' := [(3, .int 0), (2, .int mf), (0, .ref m0), (1, .int (nI j11))]) hx hb d_Mo_play_46 rfl hl (by decide) rfl (fun ls hln => ?_)
          replace hl : lv_has ls 4 [(3, .int 0), (2, .int mf), (0, .ref m0), (1, .int (nI j11))] := hln
          clear hln
          have hloop13 : ∀ (n47 : Nat) (v : Int32) (i : Nat) (hi : i ≤ j11) (H : Heap) (locs : List Loc) (ls : Array Slot) (hl : lv_has ls 4 [(0, .ref m0), (1, .int (nI j11)), (2, .int v), (3, .int (nI i))]) (hP : va_P (dC, dI) clA [(m0, .inr (9, [.int mth, .int (nI mt), .ref m1, .ref m2, .int mf, .int (nI mcd), .ref m3, .ref m4, .ref m5, .ref m6, .int (nI mev), .ref m7, .ref m8, .ref m9, .ref m10, .ref m11, .ref m12, .ref m13, .int mwh, .int mps, .ref m14, .ref m15, .long mlr, .int (nI mlt), .int (nI mlm), .ref m16, .int (nI n9), .ref m17])), (m1, .inl (cI, 8, .inl mp)), (m2, .inl (cI, 8, .inl mq)), (m17, .inl (cI, 62, .inl gwy))] H) (hD : va_D A [(m0, .inr (9, [.int mth, .int (nI mt), .ref m1, .ref m2, .int mf, .int (nI mcd), .ref m3, .ref m4, .ref m5, .ref m6, .int (nI mev), .ref m7, .ref m8, .ref m9, .ref m10, .ref m11, .ref m12, .ref m13, .int mwh, .int mps, .ref m14, .ref m15, .long mlr, .int (nI mlt), .int (nI mlm), .ref m16, .int (nI n9), .ref m17])), (m1, .inl (cI, 8, .inl mp)), (m2, .inl (cI, 8, .inl mq)), (m17, .inl (cI, 62, .inl gwy))]) (hS : va_S A s.heap H locs) (hm47 : j11 - i < n47), W p l e (headSpec (Cond.code y_Mo_play prog_11_method_36_code 4 (some .int) :: wsA) { frames := 1, cells := 0, slots := 0, locals := 22 }).room s m ([.ref m0, .int (nI j11)] : List Value).toArray below meth c H locs 0 0 Q (F0 m 47 ls []) := by
            clear hl hP hD hS
            intro n47
            induction n47 with
            | zero => intro v i hi H locs ls hl hP hD hS hm; exact absurd hm (Nat.not_lt_zero _)
            | succ n47 hloop13_ih =>
              intro v i hi H locs ls hl hP hD hS hm47
              refine lv_iload_n hx hb d_Mo_play_47 rfl (lv_at hl 3 rfl) ?_
              refine lv_iload_n hx hb d_Mo_play_48 rfl (lv_at hl 1 rfl) ?_
              refine lv_icmp_ge (tgt := 118) hx hb d_Mo_play_49 (by decide) (fun hb14 => ?_) (fun hb14 => ?_)
              · skip
                replace hb14 := cv_le (a := j11) (b := i) (by omega) (by omega) hb14
                refine lv_aload_n hx hb d_Mo_play_118 rfl (lv_at hl 0 rfl) ?_
                refine lv_iconst (v := 0) hx hb d_Mo_play_119 (by decide) ?_
                refine va_put (D := (dC, dI)) (ci := 9) (v := .int 0) (ty := .int) (C := "NetUnfolderModel") (T := T_Mo) (N := 28) hx hb ht in_Mo ty_Mo ok_Mo nm_Mo hown hK hP hD hS 0 rfl rfl 0 (by decide) (ht _ wd_4_0) (fun _ h9 => h9) rfl (by decide +kernel) rfl rfl (Nat.le_of_ble_eq_true rfl) d_Mo_play_120 (fun H15 locs hPn hDn hSn => ?_)
                replace hP : va_P (dC, dI) clA [(m0, .inr (9, [.int 0, .int (nI mt), .ref m1, .ref m2, .int mf, .int (nI mcd), .ref m3, .ref m4, .ref m5, .ref m6, .int (nI mev), .ref m7, .ref m8, .ref m9, .ref m10, .ref m11, .ref m12, .ref m13, .int mwh, .int mps, .ref m14, .ref m15, .long mlr, .int (nI mlt), .int (nI mlm), .ref m16, .int (nI n9), .ref m17])), (m1, .inl (cI, 8, .inl mp)), (m2, .inl (cI, 8, .inl mq)), (m17, .inl (cI, 62, .inl gwy))] H15 := hPn
                replace hD : va_D A [(m0, .inr (9, [.int 0, .int (nI mt), .ref m1, .ref m2, .int mf, .int (nI mcd), .ref m3, .ref m4, .ref m5, .ref m6, .int (nI mev), .ref m7, .ref m8, .ref m9, .ref m10, .ref m11, .ref m12, .ref m13, .int mwh, .int mps, .ref m14, .ref m15, .long mlr, .int (nI mlt), .int (nI mlm), .ref m16, .int (nI n9), .ref m17])), (m1, .inl (cI, 8, .inl mp)), (m2, .inl (cI, 8, .inl mq)), (m17, .inl (cI, 62, .inl gwy))] := hDn
                replace hS := hSn
                clear hPn hDn hSn
                refine lv_iload_n hx hb d_Mo_play_123 rfl (lv_at hl 2 rfl) ?_
                have hP9 := hP.sub (ws' := [(m0, .inr (9, [.int 0, .int (nI mt), .ref m1, .ref m2, .int mf, .int (nI mcd), .ref m3, .ref m4, .ref m5, .ref m6, .int (nI mev), .ref m7, .ref m8, .ref m9, .ref m10, .ref m11, .ref m12, .ref m13, .int mwh, .int mps, .ref m14, .ref m15, .long mlr, .int (nI mlt), .int (nI mlm), .ref m16, .int (nI n9), .ref m17])), (m1, .inl (cI, 8, .inl mp)), (m2, .inl (cI, 8, .inl mq)), (m17, .inl (cI, 62, .inl gwy))]) [0, 1, 2, 3] rfl
                have hD9 := hD.sub (ws' := [(m0, .inr (9, [.int 0, .int (nI mt), .ref m1, .ref m2, .int mf, .int (nI mcd), .ref m3, .ref m4, .ref m5, .ref m6, .int (nI mev), .ref m7, .ref m8, .ref m9, .ref m10, .ref m11, .ref m12, .ref m13, .int mwh, .int mps, .ref m14, .ref m15, .long mlr, .int (nI mlt), .int (nI mlm), .ref m16, .int (nI n9), .ref m17])), (m1, .inl (cI, 8, .inl mp)), (m2, .inl (cI, 8, .inl mq)), (m17, .inl (cI, 62, .inl gwy))]) [0, 1, 2, 3] (by decide) rfl
                subst hQ
                exact W.iret (v := v) hx hb hr (fun t9 ht9 hW => ⟨⟨v, (), rfl, trivial, 0, (nI n9), hmy, by rw [ht9]; exact hP9, hD9⟩, hS.F ht9⟩) hS.2.2 d_Mo_play_124
              · skip
                replace hb14 := cv_nle (a := j11) (b := i) (by omega) (by omega) hb14
                refine lv_iload_n hx hb d_Mo_play_52 rfl (lv_at hl 2 rfl) ?_
                refine lv_aload_n hx hb d_Mo_play_53 rfl (lv_at hl 0 rfl) ?_
                refine va_get (D := (dC, dI)) (ci := 9) (v := .ref m1) (C := "NetUnfolderModel") (T := T_Mo) (N := 28) hx hb ht in_Mo hown hK hP 0 rfl rfl 2 (by decide) (ht _ wd_4_2) (fun _ h9 => h9) rfl d_Mo_play_54 ?_
                refine lv_aload_n hx hb d_Mo_play_57 rfl (lv_at hl 0 rfl) ?_
                refine va_get (D := (dC, dI)) (ci := 9) (v := .ref m17) (C := "NetUnfolderModel") (T := T_Mo) (N := 28) hx hb ht in_Mo hown hK hP 0 rfl rfl 27 (by decide) (ht _ wd_4_27) (fun _ h9 => h9) rfl d_Mo_play_58 ?_
                refine lv_iload_n hx hb d_Mo_play_61 rfl (lv_at hl 3 rfl) ?_
                refine na_iald (k := i) hx hb hK hP 3 0 rfl rfl (by omega) (by decide) d_Mo_play_62 ?_
                obtain ⟨q16, hq17, eq18⟩ := hgwy (i) (by omega)
                refine ci_i (y := nI q16) eq18 ?_
                refine na_iald (k := q16) hx hb hK hP 1 0 rfl rfl (by omega) (by decide) d_Mo_play_63 ?_
                refine lv_iand hx hb d_Mo_play_64 ?_
                refine lv_aload_n hx hb d_Mo_play_65 rfl (lv_at hl 0 rfl) ?_
                refine va_get (D := (dC, dI)) (ci := 9) (v := .ref m1) (C := "NetUnfolderModel") (T := T_Mo) (N := 28) hx hb ht in_Mo hown hK hP 0 rfl rfl 2 (by decide) (ht _ wd_4_2) (fun _ h9 => h9) rfl d_Mo_play_66 ?_
                refine lv_aload_n hx hb d_Mo_play_69 rfl (lv_at hl 0 rfl) ?_
                refine va_get (D := (dC, dI)) (ci := 9) (v := .ref m17) (C := "NetUnfolderModel") (T := T_Mo) (N := 28) hx hb ht in_Mo hown hK hP 0 rfl rfl 27 (by decide) (ht _ wd_4_27) (fun _ h9 => h9) rfl d_Mo_play_70 ?_
                refine lv_iload_n hx hb d_Mo_play_73 rfl (lv_at hl 3 rfl) ?_
                refine na_iald (k := i) hx hb hK hP 3 0 rfl rfl (by omega) (by decide) d_Mo_play_74 ?_
                obtain ⟨q19, hq20, eq21⟩ := hgwy (i) (by omega)
                refine ci_i (y := nI q19) eq21 ?_
                refine na_iald (k := q19) hx hb hK hP 1 0 rfl rfl (by omega) (by decide) d_Mo_play_75 ?_
                refine lv_icmp_eq (tgt := 85) hx hb d_Mo_play_76 (by decide) (fun hb22 => ?_) (fun hb22 => ?_)
                · skip
                  refine lv_iload_n hx hb d_Mo_play_85 rfl (lv_at hl 2 rfl) ?_
                  refine lv_aload_n hx hb d_Mo_play_86 rfl (lv_at hl 0 rfl) ?_
                  refine va_get (D := (dC, dI)) (ci := 9) (v := .ref m1) (C := "NetUnfolderModel") (T := T_Mo) (N := 28) hx hb ht in_Mo hown hK hP 0 rfl rfl 2 (by decide) (ht _ wd_4_2) (fun _ h9 => h9) rfl d_Mo_play_87 ?_
                  refine lv_aload_n hx hb d_Mo_play_90 rfl (lv_at hl 0 rfl) ?_
                  refine va_get (D := (dC, dI)) (ci := 9) (v := .ref m17) (C := "NetUnfolderModel") (T := T_Mo) (N := 28) hx hb ht in_Mo hown hK hP 0 rfl rfl 27 (by decide) (ht _ wd_4_27) (fun _ h9 => h9) rfl d_Mo_play_91 ?_
                  refine lv_iload_n hx hb d_Mo_play_94 rfl (lv_at hl 3 rfl) ?_
                  refine na_iald (k := i) hx hb hK hP 3 0 rfl rfl (by omega) (by decide) d_Mo_play_95 ?_
                  obtain ⟨q23, hq24, eq25⟩ := hgwy (i) (by omega)
                  refine ci_i (y := nI q23) eq25 ?_
                  refine na_iald (k := q23) hx hb hK hP 1 0 rfl rfl (by omega) (by decide) d_Mo_play_96 ?_
                  refine lv_aload_n hx hb d_Mo_play_97 rfl (lv_at hl 0 rfl) ?_
                  refine va_get (D := (dC, dI)) (ci := 9) (v := .ref m2) (C := "NetUnfolderModel") (T := T_Mo) (N := 28) hx hb ht in_Mo hown hK hP 0 rfl rfl 3 (by decide) (ht _ wd_4_3) (fun _ h9 => h9) rfl d_Mo_play_98 ?_
                  refine lv_aload_n hx hb d_Mo_play_101 rfl (lv_at hl 0 rfl) ?_
                  refine va_get (D := (dC, dI)) (ci := 9) (v := .ref m17) (C := "NetUnfolderModel") (T := T_Mo) (N := 28) hx hb ht in_Mo hown hK hP 0 rfl rfl 27 (by decide) (ht _ wd_4_27) (fun _ h9 => h9) rfl d_Mo_play_102 ?_
                  refine lv_iload_n hx hb d_Mo_play_105 rfl (lv_at hl 3 rfl) ?_
                  refine na_iald (k := i) hx hb hK hP 3 0 rfl rfl (by omega) (by decide) d_Mo_play_106 ?_
                  obtain ⟨q26, hq27, eq28⟩ := hgwy (i) (by omega)
                  refine ci_i (y := nI q26) eq28 ?_
                  refine na_iald (k := q26) hx hb hK hP 2 0 rfl rfl (by omega) (by decide) d_Mo_play_107 ?_
                  have hPc : va_P (dC, dI) clA [] _ := pu_P (H := H)
                  have hDc : va_D (fun _ => True) [] := pu_D
                  have hFc := pu_free hS hA
                  refine va_calli (va_runS (As := [.int v, .int (mp q23), .int (mq q26)]) (rest := []) ⟨hx, hb, hml, hown, ht⟩ (c_Mo_fire l dC dI cI cL cZ _ v (mp q23) (mq q26) ) (va_cwS 3 ht (good_S wd_4_185 wd_4_186 wd_1_10 wd_4_187) rfl rfl rfl (by decide +kernel) ⟨Nat.le_of_ble_eq_true rfl, Nat.le_of_ble_eq_true rfl⟩) ⟨fun a U g mk q => by obtain ⟨q0, q1, qP, qK, qD, qN⟩ := q; exact ⟨q0, q1, qP, va_K.moved (u := U) (U := U.calling g mk a) (Vm.Alike.refl U.vm) qK, qD, NwA.same (u := U) rfl qN⟩, fun U hU hW => ⟨rfl, by rw [hU], by rw [hU]; exact hPc, va_K.moved hW.alike hK, hDc.weaken (fun _ _ _ _ => trivial), NwA.warm hW hN⟩⟩ rfl rfl hl.1 rfl (lv_room (Nat.le_of_ble_eq_true rfl)) d_Mo_play_108 ⟨Nat.le_of_ble_eq_true rfl, Nat.le_of_ble_eq_true rfl⟩) hS (fun q _ h => hFc q h) hFc (fun r31 u9 t9 H29 locs ht9 hvm hw30 hB hz1 hk1 hSn => ?_)
                  replace hP : va_P (dC, dI) clA [(m0, .inr (9, [.int mth, .int (nI mt), .ref m1, .ref m2, .int mf, .int (nI mcd), .ref m3, .ref m4, .ref m5, .ref m6, .int (nI mev), .ref m7, .ref m8, .ref m9, .ref m10, .ref m11, .ref m12, .ref m13, .int mwh, .int mps, .ref m14, .ref m15, .long mlr, .int (nI mlt), .int (nI mlm), .ref m16, .int (nI n9), .ref m17])), (m1, .inl (cI, 8, .inl mp)), (m2, .inl (cI, 8, .inl mq)), (m17, .inl (cI, 62, .inl gwy))] H29 := pu_keep hP hk1
                  replace hS := hSn
                  clear hSn hPc hDc hFc hk1 hz1 ht9 hvm hB
                  refine W.cs (cells' := 0) (slots' := 0) rfl rfl ?_
                  refine lv_istore_n (lv' := [(2, .int r31), (0, .ref m0), (1, .int (nI j11)), (3, .int (nI i))]) hx hb d_Mo_play_111 rfl hl (by decide) rfl (fun ls hln => ?_)
                  replace hl : lv_has ls 4 [(2, .int r31), (0, .ref m0), (1, .int (nI j11)), (3, .int (nI i))] := hln
                  clear hln
                  refine lv_iinc (k := 3) (v := nI (i + 1)) (lv' := [(3, .int (nI (i + 1))), (2, .int r31), (0, .ref m0), (1, .int (nI j11))]) hx hb d_Mo_play_112 hl rfl (nI_1 _) (by decide) rfl (fun ls hln => ?_)
                  replace hl : lv_has ls 4 [(3, .int (nI (i + 1))), (2, .int r31), (0, .ref m0), (1, .int (nI j11))] := hln
                  clear hln
                  refine lv_goto (tgt := 47) hx hb d_Mo_play_115 (by decide) ?_
                  exact hloop13_ih r31 (i + 1) (by first | assumption | omega | trivial | exact AllLt.zero | exact AllN.zero | exact AllM.zero | exact Or.inl rfl | exact Or.inr rfl) _ _ ls (lv_sub hl [2, 3, 1, 0] rfl) (hP.sub [0, 1, 2, 3] rfl) (hD.sub [0, 1, 2, 3] (by decide) rfl) hS (by omega)
                · skip
                  refine lv_aload_n hx hb d_Mo_play_79 rfl (lv_at hl 0 rfl) ?_
                  refine lv_iconst (v := 2) hx hb d_Mo_play_80 (by decide) ?_
                  have hPc := hP.sub (ws' := [(m0, .inr (9, [.int mth, .int (nI mt), .ref m1, .ref m2, .int mf, .int (nI mcd), .ref m3, .ref m4, .ref m5, .ref m6, .int (nI mev), .ref m7, .ref m8, .ref m9, .ref m10, .ref m11, .ref m12, .ref m13, .int mwh, .int mps, .ref m14, .ref m15, .long mlr, .int (nI mlt), .int (nI mlm), .ref m16, .int (nI n9), .ref m17]))]) [0] rfl
                  have hDc := hD.sub (ws' := [(m0, .inr (9, [.int mth, .int (nI mt), .ref m1, .ref m2, .int mf, .int (nI mcd), .ref m3, .ref m4, .ref m5, .ref m6, .int (nI mev), .ref m7, .ref m8, .ref m9, .ref m10, .ref m11, .ref m12, .ref m13, .int mwh, .int mps, .ref m14, .ref m15, .long mlr, .int (nI mlt), .int (nI mlm), .ref m16, .int (nI n9), .ref m17]))]) [0] (by decide) rfl
                  have hFc := va_free (wc := [(m0, .inr (9, [.int mth, .int (nI mt), .ref m1, .ref m2, .int mf, .int (nI mcd), .ref m3, .ref m4, .ref m5, .ref m6, .int (nI mev), .ref m7, .ref m8, .ref m9, .ref m10, .ref m11, .ref m12, .ref m13, .int mwh, .int mps, .ref m14, .ref m15, .long mlr, .int (nI mlt), .int (nI mlm), .ref m16, .int (nI n9), .ref m17]))]) hD hS hA [0] rfl
                  refine va_calli (va_runV (C := "NetUnfolderModel") (As := [.int 2]) (rest := []) ⟨hx, hb, hml, hown, ht⟩ (c_Mo_refuse l dC dI cI cL cZ _ m0 m1 m2 m3 m4 m5 m6 m7 m8 m9 m10 m11 m12 m13 m14 m15 m16 m17 mth mt mf mcd mev mwh mps mlr mlt mlm (nI n9) 2 ) (cwV 1 ht (good_V wd_4_216 wd_4_218 ws_Mo_refuse wd_1_10 wd_4_219) rfl rfl rfl (by decide +kernel) ⟨Nat.le_of_ble_eq_true rfl, Nat.le_of_ble_eq_true rfl⟩) ⟨fun a U g mk q => by obtain ⟨q0, q1, qP, qK, qD, qN⟩ := q; exact ⟨q0, q1, qP, va_K.moved (u := U) (U := U.calling g mk a) (Vm.Alike.refl U.vm) qK, qD, NwA.same (u := U) rfl qN⟩, (va_recv (q0 := 0) (ci := 9) hK hP rfl rfl), fun U hU hW => ⟨rfl, by rw [hU], by rw [hU]; exact hPc, va_K.moved hW.alike hK, hDc.weaken (fun _ _ _ _ => trivial), NwA.warm hW hN⟩⟩ rfl rfl hl.1 rfl (lv_room (Nat.le_of_ble_eq_true rfl)) d_Mo_play_81 ⟨Nat.le_of_ble_eq_true rfl, Nat.le_of_ble_eq_true rfl⟩) hS (fun q _ h => hFc q h) hFc (fun r34 u9 t9 H32 locs ht9 hvm hw33 hB hz1 hk1 hSn => ?_)
                  obtain ⟨hP1, hD1⟩ := hB
                  rw [ht9] at hP1
                  obtain ⟨hPn, hDn⟩ := va_join (wr := [(m1, .inl (cI, 8, .inl mp)), (m2, .inl (cI, 8, .inl mq)), (m17, .inl (cI, 62, .inl gwy))]) (w1 := [(m0, .inr (9, [.int 2, .int (nI mt), .ref m1, .ref m2, .int mf, .int (nI mcd), .ref m3, .ref m4, .ref m5, .ref m6, .int (nI mev), .ref m7, .ref m8, .ref m9, .ref m10, .ref m11, .ref m12, .ref m13, .int mwh, .int mps, .ref m14, .ref m15, .long mlr, .int (nI mlt), .int (nI mlm), .ref m16, .int (nI n9), .ref m17]))]) hP hD [0] [1, 2, 3] rfl rfl (by decide) (by decide) hk1 hFc hP1 hD1
                  replace hP : va_P (dC, dI) clA [(m1, .inl (cI, 8, .inl mp)), (m2, .inl (cI, 8, .inl mq)), (m17, .inl (cI, 62, .inl gwy)), (m0, .inr (9, [.int 2, .int (nI mt), .ref m1, .ref m2, .int mf, .int (nI mcd), .ref m3, .ref m4, .ref m5, .ref m6, .int (nI mev), .ref m7, .ref m8, .ref m9, .ref m10, .ref m11, .ref m12, .ref m13, .int mwh, .int mps, .ref m14, .ref m15, .long mlr, .int (nI mlt), .int (nI mlm), .ref m16, .int (nI n9), .ref m17]))] H32 := hPn
                  replace hD : va_D A [(m1, .inl (cI, 8, .inl mp)), (m2, .inl (cI, 8, .inl mq)), (m17, .inl (cI, 62, .inl gwy)), (m0, .inr (9, [.int 2, .int (nI mt), .ref m1, .ref m2, .int mf, .int (nI mcd), .ref m3, .ref m4, .ref m5, .ref m6, .int (nI mev), .ref m7, .ref m8, .ref m9, .ref m10, .ref m11, .ref m12, .ref m13, .int mwh, .int mps, .ref m14, .ref m15, .long mlr, .int (nI mlt), .int (nI mlm), .ref m16, .int (nI n9), .ref m17]))] := hDn
                  replace hS := hSn
                  clear hPn hDn hSn
                  clear hPc hDc hFc hP1 hD1 hk1 hz1 ht9 hvm
                  refine W.cs (cells' := 0) (slots' := 0) rfl rfl ?_
                  subst hw33
                  have hP9 := hP.sub (ws' := [(m0, .inr (9, [.int 2, .int (nI mt), .ref m1, .ref m2, .int mf, .int (nI mcd), .ref m3, .ref m4, .ref m5, .ref m6, .int (nI mev), .ref m7, .ref m8, .ref m9, .ref m10, .ref m11, .ref m12, .ref m13, .int mwh, .int mps, .ref m14, .ref m15, .long mlr, .int (nI mlt), .int (nI mlm), .ref m16, .int (nI n9), .ref m17])), (m1, .inl (cI, 8, .inl mp)), (m2, .inl (cI, 8, .inl mq)), (m17, .inl (cI, 62, .inl gwy))]) [3, 0, 1, 2] rfl
                  have hD9 := hD.sub (ws' := [(m0, .inr (9, [.int 2, .int (nI mt), .ref m1, .ref m2, .int mf, .int (nI mcd), .ref m3, .ref m4, .ref m5, .ref m6, .int (nI mev), .ref m7, .ref m8, .ref m9, .ref m10, .ref m11, .ref m12, .ref m13, .int mwh, .int mps, .ref m14, .ref m15, .long mlr, .int (nI mlt), .int (nI mlm), .ref m16, .int (nI n9), .ref m17])), (m1, .inl (cI, 8, .inl mp)), (m2, .inl (cI, 8, .inl mq)), (m17, .inl (cI, 62, .inl gwy))]) [3, 0, 1, 2] (by decide) rfl
                  subst hQ
                  exact W.iret (v := 0) hx hb hr (fun t9 ht9 hW => ⟨⟨0, (), rfl, trivial, 2, (nI n9), hmy, by rw [ht9]; exact hP9, hD9⟩, hS.F ht9⟩) hS.2.2 d_Mo_play_84
          exact hloop13 ((j11 - 0) + 1) mf 0 (by first | assumption | omega | trivial | exact AllLt.zero | exact AllN.zero | exact AllM.zero | exact Or.inl rfl | exact Or.inr rfl) _ _ ls (lv_sub hl [2, 3, 1, 0] rfl) hP hD hS (Nat.lt_succ_self _)
        · skip
          exact (cv_nm1 (by omega) hb12).elim
      · skip
        refine lv_aload_n hx hb d_Mo_play_20 rfl (lv_at hl 0 rfl) ?_
        refine lv_iconst (v := 1) hx hb d_Mo_play_21 (by decide) ?_
        have hPc := hP.sub (ws' := [(m0, .inr (9, [.int mth, .int (nI mt), .ref m1, .ref m2, .int mf, .int (nI mcd), .ref m3, .ref m4, .ref m5, .ref m6, .int (nI mev), .ref m7, .ref m8, .ref m9, .ref m10, .ref m11, .ref m12, .ref m13, .int mwh, .int mps, .ref m14, .ref m15, .long mlr, .int (nI mlt), .int (nI mlm), .ref m16, .int (nI n9), .ref m17]))]) [0] rfl
        have hDc := hD.sub (ws' := [(m0, .inr (9, [.int mth, .int (nI mt), .ref m1, .ref m2, .int mf, .int (nI mcd), .ref m3, .ref m4, .ref m5, .ref m6, .int (nI mev), .ref m7, .ref m8, .ref m9, .ref m10, .ref m11, .ref m12, .ref m13, .int mwh, .int mps, .ref m14, .ref m15, .long mlr, .int (nI mlt), .int (nI mlm), .ref m16, .int (nI n9), .ref m17]))]) [0] (by decide) rfl
        have hFc := va_free (wc := [(m0, .inr (9, [.int mth, .int (nI mt), .ref m1, .ref m2, .int mf, .int (nI mcd), .ref m3, .ref m4, .ref m5, .ref m6, .int (nI mev), .ref m7, .ref m8, .ref m9, .ref m10, .ref m11, .ref m12, .ref m13, .int mwh, .int mps, .ref m14, .ref m15, .long mlr, .int (nI mlt), .int (nI mlm), .ref m16, .int (nI n9), .ref m17]))]) hD hS hA [0] rfl
        refine va_calli (va_runV (C := "NetUnfolderModel") (As := [.int 1]) (rest := []) ⟨hx, hb, hml, hown, ht⟩ (c_Mo_refuse l dC dI cI cL cZ _ m0 m1 m2 m3 m4 m5 m6 m7 m8 m9 m10 m11 m12 m13 m14 m15 m16 m17 mth mt mf mcd mev mwh mps mlr mlt mlm (nI n9) 1 ) (cwV 1 ht (good_V wd_4_216 wd_4_218 ws_Mo_refuse wd_1_10 wd_4_219) rfl rfl rfl (by decide +kernel) ⟨Nat.le_of_ble_eq_true rfl, Nat.le_of_ble_eq_true rfl⟩) ⟨fun a U g mk q => by obtain ⟨q0, q1, qP, qK, qD, qN⟩ := q; exact ⟨q0, q1, qP, va_K.moved (u := U) (U := U.calling g mk a) (Vm.Alike.refl U.vm) qK, qD, NwA.same (u := U) rfl qN⟩, (va_recv (q0 := 0) (ci := 9) hK hP rfl rfl), fun U hU hW => ⟨rfl, by rw [hU], by rw [hU]; exact hPc, va_K.moved hW.alike hK, hDc.weaken (fun _ _ _ _ => trivial), NwA.warm hW hN⟩⟩ rfl rfl hl.1 rfl (lv_room (Nat.le_of_ble_eq_true rfl)) d_Mo_play_22 ⟨Nat.le_of_ble_eq_true rfl, Nat.le_of_ble_eq_true rfl⟩) hS (fun q _ h => hFc q h) hFc (fun r37 u9 t9 H35 locs ht9 hvm hw36 hB hz1 hk1 hSn => ?_)
        obtain ⟨hP1, hD1⟩ := hB
        rw [ht9] at hP1
        obtain ⟨hPn, hDn⟩ := va_join (wr := [(m1, .inl (cI, 8, .inl mp)), (m2, .inl (cI, 8, .inl mq)), (m17, .inl (cI, 62, .inl gwy))]) (w1 := [(m0, .inr (9, [.int 1, .int (nI mt), .ref m1, .ref m2, .int mf, .int (nI mcd), .ref m3, .ref m4, .ref m5, .ref m6, .int (nI mev), .ref m7, .ref m8, .ref m9, .ref m10, .ref m11, .ref m12, .ref m13, .int mwh, .int mps, .ref m14, .ref m15, .long mlr, .int (nI mlt), .int (nI mlm), .ref m16, .int (nI n9), .ref m17]))]) hP hD [0] [1, 2, 3] rfl rfl (by decide) (by decide) hk1 hFc hP1 hD1
        replace hP : va_P (dC, dI) clA [(m1, .inl (cI, 8, .inl mp)), (m2, .inl (cI, 8, .inl mq)), (m17, .inl (cI, 62, .inl gwy)), (m0, .inr (9, [.int 1, .int (nI mt), .ref m1, .ref m2, .int mf, .int (nI mcd), .ref m3, .ref m4, .ref m5, .ref m6, .int (nI mev), .ref m7, .ref m8, .ref m9, .ref m10, .ref m11, .ref m12, .ref m13, .int mwh, .int mps, .ref m14, .ref m15, .long mlr, .int (nI mlt), .int (nI mlm), .ref m16, .int (nI n9), .ref m17]))] H35 := hPn
        replace hD : va_D A [(m1, .inl (cI, 8, .inl mp)), (m2, .inl (cI, 8, .inl mq)), (m17, .inl (cI, 62, .inl gwy)), (m0, .inr (9, [.int 1, .int (nI mt), .ref m1, .ref m2, .int mf, .int (nI mcd), .ref m3, .ref m4, .ref m5, .ref m6, .int (nI mev), .ref m7, .ref m8, .ref m9, .ref m10, .ref m11, .ref m12, .ref m13, .int mwh, .int mps, .ref m14, .ref m15, .long mlr, .int (nI mlt), .int (nI mlm), .ref m16, .int (nI n9), .ref m17]))] := hDn
        replace hS := hSn
        clear hPn hDn hSn
        clear hPc hDc hFc hP1 hD1 hk1 hz1 ht9 hvm
        refine W.cs (cells' := 0) (slots' := 0) rfl rfl ?_
        subst hw36
        have hP9 := hP.sub (ws' := [(m0, .inr (9, [.int 1, .int (nI mt), .ref m1, .ref m2, .int mf, .int (nI mcd), .ref m3, .ref m4, .ref m5, .ref m6, .int (nI mev), .ref m7, .ref m8, .ref m9, .ref m10, .ref m11, .ref m12, .ref m13, .int mwh, .int mps, .ref m14, .ref m15, .long mlr, .int (nI mlt), .int (nI mlm), .ref m16, .int (nI n9), .ref m17])), (m1, .inl (cI, 8, .inl mp)), (m2, .inl (cI, 8, .inl mq)), (m17, .inl (cI, 62, .inl gwy))]) [3, 0, 1, 2] rfl
        have hD9 := hD.sub (ws' := [(m0, .inr (9, [.int 1, .int (nI mt), .ref m1, .ref m2, .int mf, .int (nI mcd), .ref m3, .ref m4, .ref m5, .ref m6, .int (nI mev), .ref m7, .ref m8, .ref m9, .ref m10, .ref m11, .ref m12, .ref m13, .int mwh, .int mps, .ref m14, .ref m15, .long mlr, .int (nI mlt), .int (nI mlm), .ref m16, .int (nI n9), .ref m17])), (m1, .inl (cI, 8, .inl mp)), (m2, .inl (cI, 8, .inl mq)), (m17, .inl (cI, 62, .inl gwy))]) [3, 0, 1, 2] (by decide) rfl
        subst hQ
        exact W.iret (v := 0) hx hb hr (fun t9 ht9 hW => ⟨⟨0, (), rfl, trivial, 1, (nI n9), hmy, by rw [ht9]; exact hP9, hD9⟩, hS.F ht9⟩) hS.2.2 d_Mo_play_25
