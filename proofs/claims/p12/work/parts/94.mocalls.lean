set_option maxHeartbeats 4000000 in
set_option maxRecDepth 100000 in
theorem e_Mo_first (l : Launch) (dC : Nat → ClassId) (dI : Nat → Nat → Nat) (cI cL cZ : ClassId) (sz : Nat) (m0 : Nat) (m1 : Nat) (m2 : Nat) (m3 : Nat) (m4 : Nat) (m5 : Nat) (m6 : Nat) (m7 : Nat) (m8 : Nat) (m9 : Nat) (m10 : Nat) (m11 : Nat) (m12 : Nat) (m13 : Nat) (m14 : Nat) (m15 : Nat) (m16 : Nat) (m17 : Nat) (mth : Int32) (mt : Nat) (mf : Int32) (mcd : Nat) (mev : Nat) (mwh : Int32) (mps : Int32) (mlr : Int64) (mlt : Nat) (mlm : Nat) (mln : Int32) (x : Int32) : Met l y_Mo_first (Cond.code y_Mo_first prog_11_method_8_code 2 none :: wsA) { frames := 1, cells := 0, slots := 0, locals := 22 } (va_Pc [.ref m0, .int x] (fun U => U.heap.size = sz ∧ va_P (dC, dI) clA [(m0, .inr (9, [.int mth, .int (nI mt), .ref m1, .ref m2, .int mf, .int (nI mcd), .ref m3, .ref m4, .ref m5, .ref m6, .int (nI mev), .ref m7, .ref m8, .ref m9, .ref m10, .ref m11, .ref m12, .ref m13, .int mwh, .int mps, .ref m14, .ref m15, .long mlr, .int (nI mlt), .int (nI mlm), .ref m16, .int mln, .ref m17]))] U.heap ∧ va_K (dC, dI) clA [(cI, .int), (cL, .long), (cZ, .boolean)] U ∧ va_D (fun _ => True) [(m0, .inr (9, [.int mth, .int (nI mt), .ref m1, .ref m2, .int mf, .int (nI mcd), .ref m3, .ref m4, .ref m5, .ref m6, .int (nI mev), .ref m7, .ref m8, .ref m9, .ref m10, .ref m11, .ref m12, .ref m13, .int mwh, .int mps, .ref m14, .ref m15, .long mlr, .int (nI mlt), .int (nI mlm), .ref m16, .int mln, .ref m17]))] ∧ NwA U)) (va_Qv (fun _ : Unit => True) (fun _ t => ∃ (mth1 : Int32), ∃ (mf1 : Int32), ∃ (mev1 : Nat), ∃ (mcd1 : Nat), ∃ (mwh1 : Int32), ∃ (mln1 : Int32), ((mev1 = mev ∧ mcd1 = mcd ∧ mln1 = mln) ∨ (mev1 = 0 ∧ mcd1 = 0 ∧ mln1 = -1)) ∧ ((isMv x = 0 ∧ mth1 = 1) ∨ (¬ isMv x = 0 ∧ mth1 = 0)) ∧ ((isMv x = 0 ∧ mf1 = mf ∧ mev1 = mev ∧ mcd1 = mcd) ∨ (¬ isMv x = 0 ∧ mf1 = x ∧ mev1 = 0 ∧ mcd1 = 0)) ∧ va_P (dC, dI) clA [(m0, .inr (9, [.int mth1, .int (nI mt), .ref m1, .ref m2, .int mf1, .int (nI mcd1), .ref m3, .ref m4, .ref m5, .ref m6, .int (nI mev1), .ref m7, .ref m8, .ref m9, .ref m10, .ref m11, .ref m12, .ref m13, .int mwh1, .int mps, .ref m14, .ref m15, .long mlr, .int (nI mlt), .int (nI mlm), .ref m16, .int mln1, .ref m17]))] t.heap ∧ va_D (va_A [(m0, .inr (9, [.int mth, .int (nI mt), .ref m1, .ref m2, .int mf, .int (nI mcd), .ref m3, .ref m4, .ref m5, .ref m6, .int (nI mev), .ref m7, .ref m8, .ref m9, .ref m10, .ref m11, .ref m12, .ref m13, .int mwh, .int mps, .ref m14, .ref m15, .long mlr, .int (nI mlt), .int (nI mlm), .ref m16, .int mln, .ref m17]))] sz) [(m0, .inr (9, [.int mth1, .int (nI mt), .ref m1, .ref m2, .int mf1, .int (nI mcd1), .ref m3, .ref m4, .ref m5, .ref m6, .int (nI mev1), .ref m7, .ref m8, .ref m9, .ref m10, .ref m11, .ref m12, .ref m13, .int mwh1, .int mps, .ref m14, .ref m15, .long mlr, .int (nI mlt), .int (nI mlm), .ref m16, .int mln1, .ref m17]))]) (va_A [(m0, .inr (9, [.int mth, .int (nI mt), .ref m1, .ref m2, .int mf, .int (nI mcd), .ref m3, .ref m4, .ref m5, .ref m6, .int (nI mev), .ref m7, .ref m8, .ref m9, .ref m10, .ref m11, .ref m12, .ref m13, .int mwh, .int mps, .ref m14, .ref m15, .long mlr, .int (nI mlt), .int (nI mlm), .ref m16, .int mln, .ref m17]))] sz)) 0 0 (va_A [(m0, .inr (9, [.int mth, .int (nI mt), .ref m1, .ref m2, .int mf, .int (nI mcd), .ref m3, .ref m4, .ref m5, .ref m6, .int (nI mev), .ref m7, .ref m8, .ref m9, .ref m10, .ref m11, .ref m12, .ref m13, .int mwh, .int mps, .ref m14, .ref m15, .long mlr, .int (nI mlt), .int (nI mlm), .ref m16, .int mln, .ref m17]))] sz) := by
  refine Met.ofW (cc := prog_11_method_8_code) (maxL := 2) (ret := none) (by decide) rfl ?_
  intro p e s m args below meth c s₁ B hml hv
  obtain ⟨rfl, hsz, hP, hK, hD0, hN⟩ := hv
  have hx := B.exec
  have hb := B.bytes
  have hr := B.returns
  have ht : ∀ w ∈ wsA, w.before _ s = true := fun w h => atoms_spec (ws := (Cond.code y_Mo_first prog_11_method_8_code 2 none :: wsA)) B.pre w (List.mem_cons_of_mem _ h)
  have hown : s.vm.findClass "NetUnfolderModel" = some m.cls := findClass_of_methodNamed B.named
  have hlocks := B.notSynchronized
  subst hsz
  have hD := hD0.self (sz := s.heap.size)
  generalize hAe : va_A [(m0, .inr (9, [.int mth, .int (nI mt), .ref m1, .ref m2, .int mf, .int (nI mcd), .ref m3, .ref m4, .ref m5, .ref m6, .int (nI mev), .ref m7, .ref m8, .ref m9, .ref m10, .ref m11, .ref m12, .ref m13, .int mwh, .int mps, .ref m14, .ref m15, .long mlr, .int (nI mlt), .int (nI mlm), .ref m16, .int mln, .ref m17]))] s.heap.size = A at hD ⊢
  have hA : ∀ q : Nat, s.heap.size ≤ q → A q := fun q h => by rw [← hAe]; exact Or.inr h
  have hS : va_S A s.heap s.heap [] := va_S.rf
  have hl := lv_entry ([.ref m0, .int x]) (n := 2) (Nat.le_of_ble_eq_true rfl)
  rw [lg_entry_eq]
  generalize (lg_sl ([.ref m0, .int x]) ++ List.replicate (2 - (lg_sl ([.ref m0, .int x])).length) Slot.unset).toArray = ls at hl ⊢
  replace hl : lv_has ls 2 [(0, .ref m0), (1, .int x)] := hl
  refine W_Q (fun Q hQ => ?_)
  refine lv_aload_n hx hb d_Mo_first_0 rfl (lv_at hl 0 rfl) ?_
  refine lv_iload_n hx hb d_Mo_first_1 rfl (lv_at hl 1 rfl) ?_
  refine lv_iconst (v := 0) hx hb d_Mo_first_2 (by decide) ?_
  refine lv_sipush (v := 255) hx hb d_Mo_first_3 (by decide) ?_
  have hPc : va_P (dC, dI) clA [] _ := pu_P (H := s.heap)
  have hDc : va_D (fun _ => True) [] := pu_D
  have hFc := pu_free hS hA
  refine va_calli (va_runS (As := [.int x, .int 0, .int 255]) (rest := [.ref m0]) ⟨hx, hb, hml, hown, ht⟩ (c_Mo_outside l dC dI cI cL cZ _ x 0 255 ) (va_cwS 3 ht (good_S wd_4_90 wd_4_91 wd_1_10 wd_4_92) rfl rfl rfl (by decide +kernel) ⟨Nat.le_of_ble_eq_true rfl, Nat.le_of_ble_eq_true rfl⟩) ⟨fun a U g mk q => by obtain ⟨q0, q1, qP, qK, qD, qN⟩ := q; exact ⟨q0, q1, qP, va_K.moved (u := U) (U := U.calling g mk a) (Vm.Alike.refl U.vm) qK, qD, NwA.same (u := U) rfl qN⟩, fun U hU hW => ⟨rfl, by rw [hU], by rw [hU]; exact hPc, va_K.moved hW.alike hK, hDc.weaken (fun _ _ _ _ => trivial), NwA.warm hW hN⟩⟩ rfl rfl hl.1 rfl (lv_room (Nat.le_of_ble_eq_true rfl)) d_Mo_first_6 ⟨Nat.le_of_ble_eq_true rfl, Nat.le_of_ble_eq_true rfl⟩) hS (fun q _ h => hFc q h) hFc (fun r3 u9 t9 H1 locs ht9 hvm hw2 hB hz1 hk1 hSn => ?_)
  replace hP : va_P (dC, dI) clA [(m0, .inr (9, [.int mth, .int (nI mt), .ref m1, .ref m2, .int mf, .int (nI mcd), .ref m3, .ref m4, .ref m5, .ref m6, .int (nI mev), .ref m7, .ref m8, .ref m9, .ref m10, .ref m11, .ref m12, .ref m13, .int mwh, .int mps, .ref m14, .ref m15, .long mlr, .int (nI mlt), .int (nI mlm), .ref m16, .int mln, .ref m17]))] H1 := pu_keep hP hk1
  replace hS := hSn
  clear hSn hPc hDc hFc hk1 hz1 ht9 hvm hB
  refine W.cs (cells' := 0) (slots' := 0) rfl rfl ?_
  have hr4 := hw2
  refine lv_if_eq (tgt := 16) hx hb d_Mo_first_9 (by decide) (fun hb5 => ?_) (fun hb5 => ?_)
  · skip
    have hmv := out_m0 (out_0 hr4 hb5)
    refine lv_iconst (v := 0) hx hb d_Mo_first_16 (by decide) ?_
    refine va_put (D := (dC, dI)) (ci := 9) (v := .int 0) (ty := .int) (C := "NetUnfolderModel") (T := T_Mo) (N := 28) hx hb ht in_Mo ty_Mo ok_Mo nm_Mo hown hK hP hD hS 0 rfl rfl 0 (by decide) (ht _ wd_4_0) (fun _ h9 => h9) rfl (by decide +kernel) rfl rfl (Nat.le_of_ble_eq_true rfl) d_Mo_first_17 (fun H6 locs hPn hDn hSn => ?_)
    replace hP : va_P (dC, dI) clA [(m0, .inr (9, [.int 0, .int (nI mt), .ref m1, .ref m2, .int mf, .int (nI mcd), .ref m3, .ref m4, .ref m5, .ref m6, .int (nI mev), .ref m7, .ref m8, .ref m9, .ref m10, .ref m11, .ref m12, .ref m13, .int mwh, .int mps, .ref m14, .ref m15, .long mlr, .int (nI mlt), .int (nI mlm), .ref m16, .int mln, .ref m17]))] H6 := hPn
    replace hD : va_D A [(m0, .inr (9, [.int 0, .int (nI mt), .ref m1, .ref m2, .int mf, .int (nI mcd), .ref m3, .ref m4, .ref m5, .ref m6, .int (nI mev), .ref m7, .ref m8, .ref m9, .ref m10, .ref m11, .ref m12, .ref m13, .int mwh, .int mps, .ref m14, .ref m15, .long mlr, .int (nI mlt), .int (nI mlm), .ref m16, .int mln, .ref m17]))] := hDn
    replace hS := hSn
    clear hPn hDn hSn
    refine lv_aload_n hx hb d_Mo_first_20 rfl (lv_at hl 0 rfl) ?_
    refine va_get (D := (dC, dI)) (ci := 9) (v := .int 0) (C := "NetUnfolderModel") (T := T_Mo) (N := 28) hx hb ht in_Mo hown hK hP 0 rfl rfl 0 (by decide) (ht _ wd_4_0) (fun _ h9 => h9) rfl d_Mo_first_21 ?_
    refine lv_if_eq (tgt := 28) hx hb d_Mo_first_24 (by decide) (fun _ => ?_) (fun h => (h (by decide)).elim)
    refine lv_aload_n hx hb d_Mo_first_28 rfl (lv_at hl 0 rfl) ?_
    refine lv_iload_n hx hb d_Mo_first_29 rfl (lv_at hl 1 rfl) ?_
    refine va_put (D := (dC, dI)) (ci := 9) (v := .int x) (ty := .int) (C := "NetUnfolderModel") (T := T_Mo) (N := 28) hx hb ht in_Mo ty_Mo ok_Mo nm_Mo hown hK hP hD hS 0 rfl rfl 4 (by decide) (ht _ wd_4_4) (fun _ h9 => h9) rfl (by decide +kernel) rfl rfl (Nat.le_of_ble_eq_true rfl) d_Mo_first_30 (fun H7 locs hPn hDn hSn => ?_)
    replace hP : va_P (dC, dI) clA [(m0, .inr (9, [.int 0, .int (nI mt), .ref m1, .ref m2, .int x, .int (nI mcd), .ref m3, .ref m4, .ref m5, .ref m6, .int (nI mev), .ref m7, .ref m8, .ref m9, .ref m10, .ref m11, .ref m12, .ref m13, .int mwh, .int mps, .ref m14, .ref m15, .long mlr, .int (nI mlt), .int (nI mlm), .ref m16, .int mln, .ref m17]))] H7 := hPn
    replace hD : va_D A [(m0, .inr (9, [.int 0, .int (nI mt), .ref m1, .ref m2, .int x, .int (nI mcd), .ref m3, .ref m4, .ref m5, .ref m6, .int (nI mev), .ref m7, .ref m8, .ref m9, .ref m10, .ref m11, .ref m12, .ref m13, .int mwh, .int mps, .ref m14, .ref m15, .long mlr, .int (nI mlt), .int (nI mlm), .ref m16, .int mln, .ref m17]))] := hDn
    replace hS := hSn
    clear hPn hDn hSn
    refine lv_aload_n hx hb d_Mo_first_33 rfl (lv_at hl 0 rfl) ?_
    have hPc := hP.sub (ws' := [(m0, .inr (9, [.int 0, .int (nI mt), .ref m1, .ref m2, .int x, .int (nI mcd), .ref m3, .ref m4, .ref m5, .ref m6, .int (nI mev), .ref m7, .ref m8, .ref m9, .ref m10, .ref m11, .ref m12, .ref m13, .int mwh, .int mps, .ref m14, .ref m15, .long mlr, .int (nI mlt), .int (nI mlm), .ref m16, .int mln, .ref m17]))]) [0] rfl
    have hDc := hD.sub (ws' := [(m0, .inr (9, [.int 0, .int (nI mt), .ref m1, .ref m2, .int x, .int (nI mcd), .ref m3, .ref m4, .ref m5, .ref m6, .int (nI mev), .ref m7, .ref m8, .ref m9, .ref m10, .ref m11, .ref m12, .ref m13, .int mwh, .int mps, .ref m14, .ref m15, .long mlr, .int (nI mlt), .int (nI mlm), .ref m16, .int mln, .ref m17]))]) [0] (by decide) rfl
    have hFc := va_free (wc := [(m0, .inr (9, [.int 0, .int (nI mt), .ref m1, .ref m2, .int x, .int (nI mcd), .ref m3, .ref m4, .ref m5, .ref m6, .int (nI mev), .ref m7, .ref m8, .ref m9, .ref m10, .ref m11, .ref m12, .ref m13, .int mwh, .int mps, .ref m14, .ref m15, .long mlr, .int (nI mlt), .int (nI mlm), .ref m16, .int mln, .ref m17]))]) hD hS hA [0] rfl
    refine va_callv (va_runV (C := "NetUnfolderModel") (As := []) (rest := []) ⟨hx, hb, hml, hown, ht⟩ (c_Mo_forget l dC dI cI cL cZ _ m0 m1 m2 m3 m4 m5 m6 m7 m8 m9 m10 m11 m12 m13 m14 m15 m16 m17 0 mt x mcd mev mwh mps mlr mlt mlm mln ) (cwV 0 ht (good_V wd_4_93 wd_4_95 ws_Mo_forget wd_1_10 wd_4_96) rfl rfl rfl (by decide +kernel) ⟨Nat.le_of_ble_eq_true rfl, Nat.le_of_ble_eq_true rfl⟩) ⟨fun a U g mk q => by obtain ⟨q0, q1, qP, qK, qD, qN⟩ := q; exact ⟨q0, q1, qP, va_K.moved (u := U) (U := U.calling g mk a) (Vm.Alike.refl U.vm) qK, qD, NwA.same (u := U) rfl qN⟩, (va_recv (q0 := 0) (ci := 9) hK hP rfl rfl), fun U hU hW => ⟨rfl, by rw [hU], by rw [hU]; exact hPc, va_K.moved hW.alike hK, hDc.weaken (fun _ _ _ _ => trivial), NwA.warm hW hN⟩⟩ rfl rfl hl.1 rfl (lv_room (Nat.le_of_ble_eq_true rfl)) d_Mo_first_34 ⟨Nat.le_of_ble_eq_true rfl, Nat.le_of_ble_eq_true rfl⟩) hS (fun q _ h => hFc q h) hFc (fun u9 t9 H8 locs ht9 hvm hw9 hB hz1 hk1 hSn => ?_)
    obtain ⟨hP1, hD1⟩ := hB
    rw [ht9] at hP1
    obtain ⟨hPn, hDn⟩ := va_join (wr := []) (w1 := [(m0, .inr (9, [.int 0, .int (nI mt), .ref m1, .ref m2, .int x, .int 0, .ref m3, .ref m4, .ref m5, .ref m6, .int 0, .ref m7, .ref m8, .ref m9, .ref m10, .ref m11, .ref m12, .ref m13, .int 0, .int mps, .ref m14, .ref m15, .long mlr, .int (nI mlt), .int (nI mlm), .ref m16, .int (-1), .ref m17]))]) hP hD [0] [] rfl rfl (by decide) (by decide) hk1 hFc hP1 hD1
    replace hP : va_P (dC, dI) clA [(m0, .inr (9, [.int 0, .int (nI mt), .ref m1, .ref m2, .int x, .int 0, .ref m3, .ref m4, .ref m5, .ref m6, .int 0, .ref m7, .ref m8, .ref m9, .ref m10, .ref m11, .ref m12, .ref m13, .int 0, .int mps, .ref m14, .ref m15, .long mlr, .int (nI mlt), .int (nI mlm), .ref m16, .int (-1), .ref m17]))] H8 := hPn
    replace hD : va_D A [(m0, .inr (9, [.int 0, .int (nI mt), .ref m1, .ref m2, .int x, .int 0, .ref m3, .ref m4, .ref m5, .ref m6, .int 0, .ref m7, .ref m8, .ref m9, .ref m10, .ref m11, .ref m12, .ref m13, .int 0, .int mps, .ref m14, .ref m15, .long mlr, .int (nI mlt), .int (nI mlm), .ref m16, .int (-1), .ref m17]))] := hDn
    replace hS := hSn
    clear hPn hDn hSn
    clear hPc hDc hFc hP1 hD1 hk1 hz1 ht9 hvm
    refine W.cs (cells' := 0) (slots' := 0) rfl rfl ?_
    have hP9 := hP.sub (ws' := [(m0, .inr (9, [.int 0, .int (nI mt), .ref m1, .ref m2, .int x, .int 0, .ref m3, .ref m4, .ref m5, .ref m6, .int 0, .ref m7, .ref m8, .ref m9, .ref m10, .ref m11, .ref m12, .ref m13, .int 0, .int mps, .ref m14, .ref m15, .long mlr, .int (nI mlt), .int (nI mlm), .ref m16, .int (-1), .ref m17]))]) [0] rfl
    have hD9 := hD.sub (ws' := [(m0, .inr (9, [.int 0, .int (nI mt), .ref m1, .ref m2, .int x, .int 0, .ref m3, .ref m4, .ref m5, .ref m6, .int 0, .ref m7, .ref m8, .ref m9, .ref m10, .ref m11, .ref m12, .ref m13, .int 0, .int mps, .ref m14, .ref m15, .long mlr, .int (nI mlt), .int (nI mlm), .ref m16, .int (-1), .ref m17]))]) [0] (by decide) rfl
    subst hQ
    exact W.vret hx hb hr (fun t9 ht9 hW => ⟨⟨(), rfl, trivial, 0, x, 0, 0, 0, (-1), (Or.inr ⟨rfl, rfl, rfl⟩), (Or.inr ⟨hmv, rfl⟩), (Or.inr ⟨hmv, rfl, rfl, rfl⟩), by rw [ht9]; exact hP9, hD9⟩, hS.F ht9⟩) hS.2.2 d_Mo_first_37
  · skip
    have hmv := out_m1 (out_1 hr4 hb5)
    refine lv_iconst (v := 1) hx hb d_Mo_first_12 (by decide) ?_
    refine lv_goto (tgt := 17) hx hb d_Mo_first_13 (by decide) ?_
    refine va_put (D := (dC, dI)) (ci := 9) (v := .int 1) (ty := .int) (C := "NetUnfolderModel") (T := T_Mo) (N := 28) hx hb ht in_Mo ty_Mo ok_Mo nm_Mo hown hK hP hD hS 0 rfl rfl 0 (by decide) (ht _ wd_4_0) (fun _ h9 => h9) rfl (by decide +kernel) rfl rfl (Nat.le_of_ble_eq_true rfl) d_Mo_first_17 (fun H11 locs hPn hDn hSn => ?_)
    replace hP : va_P (dC, dI) clA [(m0, .inr (9, [.int 1, .int (nI mt), .ref m1, .ref m2, .int mf, .int (nI mcd), .ref m3, .ref m4, .ref m5, .ref m6, .int (nI mev), .ref m7, .ref m8, .ref m9, .ref m10, .ref m11, .ref m12, .ref m13, .int mwh, .int mps, .ref m14, .ref m15, .long mlr, .int (nI mlt), .int (nI mlm), .ref m16, .int mln, .ref m17]))] H11 := hPn
    replace hD : va_D A [(m0, .inr (9, [.int 1, .int (nI mt), .ref m1, .ref m2, .int mf, .int (nI mcd), .ref m3, .ref m4, .ref m5, .ref m6, .int (nI mev), .ref m7, .ref m8, .ref m9, .ref m10, .ref m11, .ref m12, .ref m13, .int mwh, .int mps, .ref m14, .ref m15, .long mlr, .int (nI mlt), .int (nI mlm), .ref m16, .int mln, .ref m17]))] := hDn
    replace hS := hSn
    clear hPn hDn hSn
    refine lv_aload_n hx hb d_Mo_first_20 rfl (lv_at hl 0 rfl) ?_
    refine va_get (D := (dC, dI)) (ci := 9) (v := .int 1) (C := "NetUnfolderModel") (T := T_Mo) (N := 28) hx hb ht in_Mo hown hK hP 0 rfl rfl 0 (by decide) (ht _ wd_4_0) (fun _ h9 => h9) rfl d_Mo_first_21 ?_
    refine lv_if_eq (tgt := 28) hx hb d_Mo_first_24 (by decide) (fun h => absurd h (by decide)) (fun _ => ?_)
    have hP9 := hP.sub (ws' := [(m0, .inr (9, [.int 1, .int (nI mt), .ref m1, .ref m2, .int mf, .int (nI mcd), .ref m3, .ref m4, .ref m5, .ref m6, .int (nI mev), .ref m7, .ref m8, .ref m9, .ref m10, .ref m11, .ref m12, .ref m13, .int mwh, .int mps, .ref m14, .ref m15, .long mlr, .int (nI mlt), .int (nI mlm), .ref m16, .int mln, .ref m17]))]) [0] rfl
    have hD9 := hD.sub (ws' := [(m0, .inr (9, [.int 1, .int (nI mt), .ref m1, .ref m2, .int mf, .int (nI mcd), .ref m3, .ref m4, .ref m5, .ref m6, .int (nI mev), .ref m7, .ref m8, .ref m9, .ref m10, .ref m11, .ref m12, .ref m13, .int mwh, .int mps, .ref m14, .ref m15, .long mlr, .int (nI mlt), .int (nI mlm), .ref m16, .int mln, .ref m17]))]) [0] (by decide) rfl
    subst hQ
    exact W.vret hx hb hr (fun t9 ht9 hW => ⟨⟨(), rfl, trivial, 1, mf, mev, mcd, mwh, mln, (Or.inl ⟨rfl, rfl, rfl⟩), (Or.inl ⟨hmv, rfl⟩), (Or.inl ⟨hmv, rfl, rfl, rfl⟩), by rw [ht9]; exact hP9, hD9⟩, hS.F ht9⟩) hS.2.2 d_Mo_first_27

set_option maxHeartbeats 4000000 in
set_option maxRecDepth 100000 in
theorem e_Mo_transition (l : Launch) (dC : Nat → ClassId) (dI : Nat → Nat → Nat) (cI cL cZ : ClassId) (sz : Nat) (m0 : Nat) (m1 : Nat) (m2 : Nat) (m3 : Nat) (m4 : Nat) (m5 : Nat) (m6 : Nat) (m7 : Nat) (m8 : Nat) (m9 : Nat) (m10 : Nat) (m11 : Nat) (m12 : Nat) (m13 : Nat) (m14 : Nat) (m15 : Nat) (m16 : Nat) (m17 : Nat) (mth : Int32) (mt : Nat) (mf : Int32) (mcd : Nat) (mev : Nat) (mwh : Int32) (mps : Int32) (mlr : Int64) (mlt : Nat) (mlm : Nat) (mln : Int32) (mp : Nat → Int32) (mq : Nat → Int32) (x : Int32) (y : Int32) (hmt : mt ≤ 8) (hmp : PreI mp mt) (hmq : AllLt mq 8 256) : Met l y_Mo_transition (Cond.code y_Mo_transition prog_11_method_7_code 3 (some .int) :: wsA) { frames := 1, cells := 0, slots := 0, locals := 22 } (va_Pc [.ref m0, .int x, .int y] (fun U => U.heap.size = sz ∧ va_P (dC, dI) clA [(m0, .inr (9, [.int mth, .int (nI mt), .ref m1, .ref m2, .int mf, .int (nI mcd), .ref m3, .ref m4, .ref m5, .ref m6, .int (nI mev), .ref m7, .ref m8, .ref m9, .ref m10, .ref m11, .ref m12, .ref m13, .int mwh, .int mps, .ref m14, .ref m15, .long mlr, .int (nI mlt), .int (nI mlm), .ref m16, .int mln, .ref m17])), (m1, .inl (cI, 8, .inl mp)), (m2, .inl (cI, 8, .inl mq))] U.heap ∧ va_K (dC, dI) clA [(cI, .int), (cL, .long), (cZ, .boolean)] U ∧ va_D (fun _ => True) [(m0, .inr (9, [.int mth, .int (nI mt), .ref m1, .ref m2, .int mf, .int (nI mcd), .ref m3, .ref m4, .ref m5, .ref m6, .int (nI mev), .ref m7, .ref m8, .ref m9, .ref m10, .ref m11, .ref m12, .ref m13, .int mwh, .int mps, .ref m14, .ref m15, .long mlr, .int (nI mlt), .int (nI mlm), .ref m16, .int mln, .ref m17])), (m1, .inl (cI, 8, .inl mp)), (m2, .inl (cI, 8, .inl mq))] ∧ NwA U)) (va_Qi (fun r (_ : Unit) => (trv x y mt = 0 → r = nI mt)) (fun _ t => ∃ (mt1 : Nat), ∃ (mp1 : Nat → Int32), ∃ (mq1 : Nat → Int32), ∃ (mth1 : Int32), ∃ (mev1 : Nat), ∃ (mcd1 : Nat), ∃ (mwh1 : Int32), ∃ (mln1 : Int32), ((mev1 = mev ∧ mcd1 = mcd ∧ mln1 = mln) ∨ (mev1 = 0 ∧ mcd1 = 0 ∧ mln1 = -1)) ∧ (mt1 ≤ 8) ∧ (PreI mp1 mt1) ∧ (AllLt mq1 8 256) ∧ (mth1 = trv x y mt) ∧ ((trv x y mt = 0 ∧ mt1 = mt + 1 ∧ mp1 = upd mp mt x ∧ mq1 = upd mq mt y ∧ mev1 = 0 ∧ mcd1 = 0) ∨ (¬ trv x y mt = 0 ∧ mt1 = mt ∧ mp1 = mp ∧ mq1 = mq ∧ mev1 = mev ∧ mcd1 = mcd)) ∧ va_P (dC, dI) clA [(m0, .inr (9, [.int mth1, .int (nI mt1), .ref m1, .ref m2, .int mf, .int (nI mcd1), .ref m3, .ref m4, .ref m5, .ref m6, .int (nI mev1), .ref m7, .ref m8, .ref m9, .ref m10, .ref m11, .ref m12, .ref m13, .int mwh1, .int mps, .ref m14, .ref m15, .long mlr, .int (nI mlt), .int (nI mlm), .ref m16, .int mln1, .ref m17])), (m1, .inl (cI, 8, .inl mp1)), (m2, .inl (cI, 8, .inl mq1))] t.heap ∧ va_D (va_A [(m0, .inr (9, [.int mth, .int (nI mt), .ref m1, .ref m2, .int mf, .int (nI mcd), .ref m3, .ref m4, .ref m5, .ref m6, .int (nI mev), .ref m7, .ref m8, .ref m9, .ref m10, .ref m11, .ref m12, .ref m13, .int mwh, .int mps, .ref m14, .ref m15, .long mlr, .int (nI mlt), .int (nI mlm), .ref m16, .int mln, .ref m17])), (m1, .inl (cI, 8, .inl mp)), (m2, .inl (cI, 8, .inl mq))] sz) [(m0, .inr (9, [.int mth1, .int (nI mt1), .ref m1, .ref m2, .int mf, .int (nI mcd1), .ref m3, .ref m4, .ref m5, .ref m6, .int (nI mev1), .ref m7, .ref m8, .ref m9, .ref m10, .ref m11, .ref m12, .ref m13, .int mwh1, .int mps, .ref m14, .ref m15, .long mlr, .int (nI mlt), .int (nI mlm), .ref m16, .int mln1, .ref m17])), (m1, .inl (cI, 8, .inl mp1)), (m2, .inl (cI, 8, .inl mq1))]) (va_A [(m0, .inr (9, [.int mth, .int (nI mt), .ref m1, .ref m2, .int mf, .int (nI mcd), .ref m3, .ref m4, .ref m5, .ref m6, .int (nI mev), .ref m7, .ref m8, .ref m9, .ref m10, .ref m11, .ref m12, .ref m13, .int mwh, .int mps, .ref m14, .ref m15, .long mlr, .int (nI mlt), .int (nI mlm), .ref m16, .int mln, .ref m17])), (m1, .inl (cI, 8, .inl mp)), (m2, .inl (cI, 8, .inl mq))] sz)) 0 0 (va_A [(m0, .inr (9, [.int mth, .int (nI mt), .ref m1, .ref m2, .int mf, .int (nI mcd), .ref m3, .ref m4, .ref m5, .ref m6, .int (nI mev), .ref m7, .ref m8, .ref m9, .ref m10, .ref m11, .ref m12, .ref m13, .int mwh, .int mps, .ref m14, .ref m15, .long mlr, .int (nI mlt), .int (nI mlm), .ref m16, .int mln, .ref m17])), (m1, .inl (cI, 8, .inl mp)), (m2, .inl (cI, 8, .inl mq))] sz) := by
  refine Met.ofW (cc := prog_11_method_7_code) (maxL := 3) (ret := (some .int)) (by decide) rfl ?_
  intro p e s m args below meth c s₁ B hml hv
  obtain ⟨rfl, hsz, hP, hK, hD0, hN⟩ := hv
  have hx := B.exec
  have hb := B.bytes
  have hr := B.returns
  have ht : ∀ w ∈ wsA, w.before _ s = true := fun w h => atoms_spec (ws := (Cond.code y_Mo_transition prog_11_method_7_code 3 (some .int) :: wsA)) B.pre w (List.mem_cons_of_mem _ h)
  have hown : s.vm.findClass "NetUnfolderModel" = some m.cls := findClass_of_methodNamed B.named
  have hlocks := B.notSynchronized
  subst hsz
  have hD := hD0.self (sz := s.heap.size)
  generalize hAe : va_A [(m0, .inr (9, [.int mth, .int (nI mt), .ref m1, .ref m2, .int mf, .int (nI mcd), .ref m3, .ref m4, .ref m5, .ref m6, .int (nI mev), .ref m7, .ref m8, .ref m9, .ref m10, .ref m11, .ref m12, .ref m13, .int mwh, .int mps, .ref m14, .ref m15, .long mlr, .int (nI mlt), .int (nI mlm), .ref m16, .int mln, .ref m17])), (m1, .inl (cI, 8, .inl mp)), (m2, .inl (cI, 8, .inl mq))] s.heap.size = A at hD ⊢
  have hA : ∀ q : Nat, s.heap.size ≤ q → A q := fun q h => by rw [← hAe]; exact Or.inr h
  have hS : va_S A s.heap s.heap [] := va_S.rf
  have hl := lv_entry ([.ref m0, .int x, .int y]) (n := 3) (Nat.le_of_ble_eq_true rfl)
  rw [lg_entry_eq]
  generalize (lg_sl ([.ref m0, .int x, .int y]) ++ List.replicate (3 - (lg_sl ([.ref m0, .int x, .int y])).length) Slot.unset).toArray = ls at hl ⊢
  replace hl : lv_has ls 3 [(0, .ref m0), (1, .int x), (2, .int y)] := hl
  refine W_Q (fun Q hQ => ?_)
  refine lv_aload_n hx hb d_Mo_transition_0 rfl (lv_at hl 0 rfl) ?_
  refine lv_iload_n hx hb d_Mo_transition_1 rfl (lv_at hl 1 rfl) ?_
  refine lv_iconst (v := 1) hx hb d_Mo_transition_2 (by decide) ?_
  refine lv_sipush (v := 255) hx hb d_Mo_transition_3 (by decide) ?_
  have hPc : va_P (dC, dI) clA [] _ := pu_P (H := s.heap)
  have hDc : va_D (fun _ => True) [] := pu_D
  have hFc := pu_free hS hA
  refine va_calli (va_runS (As := [.int x, .int 1, .int 255]) (rest := [.ref m0]) ⟨hx, hb, hml, hown, ht⟩ (c_Mo_outside l dC dI cI cL cZ _ x 1 255 ) (va_cwS 3 ht (good_S wd_4_90 wd_4_91 wd_1_10 wd_4_92) rfl rfl rfl (by decide +kernel) ⟨Nat.le_of_ble_eq_true rfl, Nat.le_of_ble_eq_true rfl⟩) ⟨fun a U g mk q => by obtain ⟨q0, q1, qP, qK, qD, qN⟩ := q; exact ⟨q0, q1, qP, va_K.moved (u := U) (U := U.calling g mk a) (Vm.Alike.refl U.vm) qK, qD, NwA.same (u := U) rfl qN⟩, fun U hU hW => ⟨rfl, by rw [hU], by rw [hU]; exact hPc, va_K.moved hW.alike hK, hDc.weaken (fun _ _ _ _ => trivial), NwA.warm hW hN⟩⟩ rfl rfl hl.1 rfl (lv_room (Nat.le_of_ble_eq_true rfl)) d_Mo_transition_6 ⟨Nat.le_of_ble_eq_true rfl, Nat.le_of_ble_eq_true rfl⟩) hS (fun q _ h => hFc q h) hFc (fun r3 u9 t9 H1 locs ht9 hvm hw2 hB hz1 hk1 hSn => ?_)
  replace hP : va_P (dC, dI) clA [(m0, .inr (9, [.int mth, .int (nI mt), .ref m1, .ref m2, .int mf, .int (nI mcd), .ref m3, .ref m4, .ref m5, .ref m6, .int (nI mev), .ref m7, .ref m8, .ref m9, .ref m10, .ref m11, .ref m12, .ref m13, .int mwh, .int mps, .ref m14, .ref m15, .long mlr, .int (nI mlt), .int (nI mlm), .ref m16, .int mln, .ref m17])), (m1, .inl (cI, 8, .inl mp)), (m2, .inl (cI, 8, .inl mq))] H1 := pu_keep hP hk1
  replace hS := hSn
  clear hSn hPc hDc hFc hk1 hz1 ht9 hvm hB
  refine W.cs (cells' := 0) (slots' := 0) rfl rfl ?_
  have hr4 := hw2
  refine lv_if_ne (tgt := 23) hx hb d_Mo_transition_9 (by decide) (fun hb5 => ?_) (fun hb5 => ?_)
  · skip
    refine lv_iconst (v := 1) hx hb d_Mo_transition_23 (by decide) ?_
    refine lv_goto (tgt := 41) hx hb d_Mo_transition_24 (by decide) ?_
    refine va_put (D := (dC, dI)) (ci := 9) (v := .int 1) (ty := .int) (C := "NetUnfolderModel") (T := T_Mo) (N := 28) hx hb ht in_Mo ty_Mo ok_Mo nm_Mo hown hK hP hD hS 0 rfl rfl 0 (by decide) (ht _ wd_4_0) (fun _ h9 => h9) rfl (by decide +kernel) rfl rfl (Nat.le_of_ble_eq_true rfl) d_Mo_transition_41 (fun H6 locs hPn hDn hSn => ?_)
    replace hP : va_P (dC, dI) clA [(m0, .inr (9, [.int 1, .int (nI mt), .ref m1, .ref m2, .int mf, .int (nI mcd), .ref m3, .ref m4, .ref m5, .ref m6, .int (nI mev), .ref m7, .ref m8, .ref m9, .ref m10, .ref m11, .ref m12, .ref m13, .int mwh, .int mps, .ref m14, .ref m15, .long mlr, .int (nI mlt), .int (nI mlm), .ref m16, .int mln, .ref m17])), (m1, .inl (cI, 8, .inl mp)), (m2, .inl (cI, 8, .inl mq))] H6 := hPn
    replace hD : va_D A [(m0, .inr (9, [.int 1, .int (nI mt), .ref m1, .ref m2, .int mf, .int (nI mcd), .ref m3, .ref m4, .ref m5, .ref m6, .int (nI mev), .ref m7, .ref m8, .ref m9, .ref m10, .ref m11, .ref m12, .ref m13, .int mwh, .int mps, .ref m14, .ref m15, .long mlr, .int (nI mlt), .int (nI mlm), .ref m16, .int mln, .ref m17])), (m1, .inl (cI, 8, .inl mp)), (m2, .inl (cI, 8, .inl mq))] := hDn
    replace hS := hSn
    clear hPn hDn hSn
    refine lv_aload_n hx hb d_Mo_transition_44 rfl (lv_at hl 0 rfl) ?_
    refine va_get (D := (dC, dI)) (ci := 9) (v := .int 1) (C := "NetUnfolderModel") (T := T_Mo) (N := 28) hx hb ht in_Mo hown hK hP 0 rfl rfl 0 (by decide) (ht _ wd_4_0) (fun _ h9 => h9) rfl d_Mo_transition_45 ?_
    refine lv_if_eq (tgt := 53) hx hb d_Mo_transition_48 (by decide) (fun h => absurd h (by decide)) (fun _ => ?_)
    refine lv_iconst (v := 0) hx hb d_Mo_transition_51 (by decide) ?_
    have hP9 := hP.sub (ws' := [(m0, .inr (9, [.int 1, .int (nI mt), .ref m1, .ref m2, .int mf, .int (nI mcd), .ref m3, .ref m4, .ref m5, .ref m6, .int (nI mev), .ref m7, .ref m8, .ref m9, .ref m10, .ref m11, .ref m12, .ref m13, .int mwh, .int mps, .ref m14, .ref m15, .long mlr, .int (nI mlt), .int (nI mlm), .ref m16, .int mln, .ref m17])), (m1, .inl (cI, 8, .inl mp)), (m2, .inl (cI, 8, .inl mq))]) [0, 1, 2] rfl
    have hD9 := hD.sub (ws' := [(m0, .inr (9, [.int 1, .int (nI mt), .ref m1, .ref m2, .int mf, .int (nI mcd), .ref m3, .ref m4, .ref m5, .ref m6, .int (nI mev), .ref m7, .ref m8, .ref m9, .ref m10, .ref m11, .ref m12, .ref m13, .int mwh, .int mps, .ref m14, .ref m15, .long mlr, .int (nI mlt), .int (nI mlm), .ref m16, .int mln, .ref m17])), (m1, .inl (cI, 8, .inl mp)), (m2, .inl (cI, 8, .inl mq))]) [0, 1, 2] (by decide) rfl
    subst hQ
    exact W.iret (v := 0) hx hb hr (fun t9 ht9 hW => ⟨⟨0, (), rfl, (fun q => absurd q (by rw [(trv_1 ((out_x1 (out_1 hr4 hb5)).elim Or.inl (fun q => Or.inr (Or.inl q))))]; decide)), mt, mp, mq, 1, mev, mcd, mwh, mln, (Or.inl ⟨rfl, rfl, rfl⟩), (by first | assumption | omega | trivial | exact AllLt.zero | exact AllN.zero | exact AllM.zero | exact Or.inl rfl | exact Or.inr rfl), hmp, hmq, (trv_1 ((out_x1 (out_1 hr4 hb5)).elim Or.inl (fun q => Or.inr (Or.inl q)))).symm, (Or.inr ⟨by rw [(trv_1 ((out_x1 (out_1 hr4 hb5)).elim Or.inl (fun q => Or.inr (Or.inl q))))]; decide, rfl, rfl, rfl, rfl, rfl⟩), by rw [ht9]; exact hP9, hD9⟩, hS.F ht9⟩) hS.2.2 d_Mo_transition_52
  · skip
    obtain ⟨n7, n7_a, n7_b, rfl⟩ := out_nat (a := 1) (b := 255) (by omega) (by omega) (out_0 hr4 hb5)
    refine lv_iload_n hx hb d_Mo_transition_12 rfl (lv_at hl 2 rfl) ?_
    refine lv_iconst (v := 0) hx hb d_Mo_transition_13 (by decide) ?_
    refine lv_sipush (v := 255) hx hb d_Mo_transition_14 (by decide) ?_
    have hPc : va_P (dC, dI) clA [] _ := pu_P (H := H1)
    have hDc : va_D (fun _ => True) [] := pu_D
    have hFc := pu_free hS hA
    refine va_calli (va_runS (As := [.int y, .int 0, .int 255]) (rest := [.ref m0]) ⟨hx, hb, hml, hown, ht⟩ (c_Mo_outside l dC dI cI cL cZ _ y 0 255 ) (va_cwS 3 ht (good_S wd_4_90 wd_4_91 wd_1_10 wd_4_92) rfl rfl rfl (by decide +kernel) ⟨Nat.le_of_ble_eq_true rfl, Nat.le_of_ble_eq_true rfl⟩) ⟨fun a U g mk q => by obtain ⟨q0, q1, qP, qK, qD, qN⟩ := q; exact ⟨q0, q1, qP, va_K.moved (u := U) (U := U.calling g mk a) (Vm.Alike.refl U.vm) qK, qD, NwA.same (u := U) rfl qN⟩, fun U hU hW => ⟨rfl, by rw [hU], by rw [hU]; exact hPc, va_K.moved hW.alike hK, hDc.weaken (fun _ _ _ _ => trivial), NwA.warm hW hN⟩⟩ rfl rfl hl.1 rfl (lv_room (Nat.le_of_ble_eq_true rfl)) d_Mo_transition_17 ⟨Nat.le_of_ble_eq_true rfl, Nat.le_of_ble_eq_true rfl⟩) hS (fun q _ h => hFc q h) hFc (fun r10 u9 t9 H8 locs ht9 hvm hw9 hB hz1 hk1 hSn => ?_)
    replace hP : va_P (dC, dI) clA [(m0, .inr (9, [.int mth, .int (nI mt), .ref m1, .ref m2, .int mf, .int (nI mcd), .ref m3, .ref m4, .ref m5, .ref m6, .int (nI mev), .ref m7, .ref m8, .ref m9, .ref m10, .ref m11, .ref m12, .ref m13, .int mwh, .int mps, .ref m14, .ref m15, .long mlr, .int (nI mlt), .int (nI mlm), .ref m16, .int mln, .ref m17])), (m1, .inl (cI, 8, .inl mp)), (m2, .inl (cI, 8, .inl mq))] H8 := pu_keep hP hk1
    replace hS := hSn
    clear hSn hPc hDc hFc hk1 hz1 ht9 hvm hB
    refine W.cs (cells' := 0) (slots' := 0) rfl rfl ?_
    have hr11 := hw9
    refine lv_if_eq (tgt := 27) hx hb d_Mo_transition_20 (by decide) (fun hb12 => ?_) (fun hb12 => ?_)
    · skip
      obtain ⟨n13, n13_a, n13_b, rfl⟩ := out_nat (a := 0) (b := 255) (by omega) (by omega) (out_0 hr11 hb12)
      refine lv_aload_n hx hb d_Mo_transition_27 rfl (lv_at hl 0 rfl) ?_
      refine va_get (D := (dC, dI)) (ci := 9) (v := .int (nI mt)) (C := "NetUnfolderModel") (T := T_Mo) (N := 28) hx hb ht in_Mo hown hK hP 0 rfl rfl 1 (by decide) (ht _ wd_4_1) (fun _ h9 => h9) rfl d_Mo_transition_28 ?_
      refine lv_bipush (v := 8) hx hb d_Mo_transition_31 (by decide) ?_
      refine lv_icmp_ne (tgt := 40) hx hb d_Mo_transition_33 (by decide) (fun hb14 => ?_) (fun hb14 => ?_)
      · skip
        replace hb14 := cv_ne (a := mt) (b := 8) (by omega) (by omega) hb14
        refine lv_iconst (v := 0) hx hb d_Mo_transition_40 (by decide) ?_
        refine va_put (D := (dC, dI)) (ci := 9) (v := .int 0) (ty := .int) (C := "NetUnfolderModel") (T := T_Mo) (N := 28) hx hb ht in_Mo ty_Mo ok_Mo nm_Mo hown hK hP hD hS 0 rfl rfl 0 (by decide) (ht _ wd_4_0) (fun _ h9 => h9) rfl (by decide +kernel) rfl rfl (Nat.le_of_ble_eq_true rfl) d_Mo_transition_41 (fun H15 locs hPn hDn hSn => ?_)
        replace hP : va_P (dC, dI) clA [(m0, .inr (9, [.int 0, .int (nI mt), .ref m1, .ref m2, .int mf, .int (nI mcd), .ref m3, .ref m4, .ref m5, .ref m6, .int (nI mev), .ref m7, .ref m8, .ref m9, .ref m10, .ref m11, .ref m12, .ref m13, .int mwh, .int mps, .ref m14, .ref m15, .long mlr, .int (nI mlt), .int (nI mlm), .ref m16, .int mln, .ref m17])), (m1, .inl (cI, 8, .inl mp)), (m2, .inl (cI, 8, .inl mq))] H15 := hPn
        replace hD : va_D A [(m0, .inr (9, [.int 0, .int (nI mt), .ref m1, .ref m2, .int mf, .int (nI mcd), .ref m3, .ref m4, .ref m5, .ref m6, .int (nI mev), .ref m7, .ref m8, .ref m9, .ref m10, .ref m11, .ref m12, .ref m13, .int mwh, .int mps, .ref m14, .ref m15, .long mlr, .int (nI mlt), .int (nI mlm), .ref m16, .int mln, .ref m17])), (m1, .inl (cI, 8, .inl mp)), (m2, .inl (cI, 8, .inl mq))] := hDn
        replace hS := hSn
        clear hPn hDn hSn
        refine lv_aload_n hx hb d_Mo_transition_44 rfl (lv_at hl 0 rfl) ?_
        refine va_get (D := (dC, dI)) (ci := 9) (v := .int 0) (C := "NetUnfolderModel") (T := T_Mo) (N := 28) hx hb ht in_Mo hown hK hP 0 rfl rfl 0 (by decide) (ht _ wd_4_0) (fun _ h9 => h9) rfl d_Mo_transition_45 ?_
        refine lv_if_eq (tgt := 53) hx hb d_Mo_transition_48 (by decide) (fun _ => ?_) (fun h => (h (by decide)).elim)
        refine lv_aload_n hx hb d_Mo_transition_53 rfl (lv_at hl 0 rfl) ?_
        refine va_get (D := (dC, dI)) (ci := 9) (v := .ref m1) (C := "NetUnfolderModel") (T := T_Mo) (N := 28) hx hb ht in_Mo hown hK hP 0 rfl rfl 2 (by decide) (ht _ wd_4_2) (fun _ h9 => h9) rfl d_Mo_transition_54 ?_
        refine lv_aload_n hx hb d_Mo_transition_57 rfl (lv_at hl 0 rfl) ?_
        refine va_get (D := (dC, dI)) (ci := 9) (v := .int (nI mt)) (C := "NetUnfolderModel") (T := T_Mo) (N := 28) hx hb ht in_Mo hown hK hP 0 rfl rfl 1 (by decide) (ht _ wd_4_1) (fun _ h9 => h9) rfl d_Mo_transition_58 ?_
        refine lv_iload_n hx hb d_Mo_transition_61 rfl (lv_at hl 1 rfl) ?_
        refine na_iast (k := mt) hx hb hK hP hD hS 1 0 rfl rfl (by omega) (by decide) d_Mo_transition_62 (fun H16 locs hPn hDn hSn => ?_)
        replace hP : va_P (dC, dI) clA [(m0, .inr (9, [.int 0, .int (nI mt), .ref m1, .ref m2, .int mf, .int (nI mcd), .ref m3, .ref m4, .ref m5, .ref m6, .int (nI mev), .ref m7, .ref m8, .ref m9, .ref m10, .ref m11, .ref m12, .ref m13, .int mwh, .int mps, .ref m14, .ref m15, .long mlr, .int (nI mlt), .int (nI mlm), .ref m16, .int mln, .ref m17])), (m1, .inl (cI, 8, .inl (upd mp mt (nI n7)))), (m2, .inl (cI, 8, .inl mq))] H16 := hPn
        replace hD : va_D A [(m0, .inr (9, [.int 0, .int (nI mt), .ref m1, .ref m2, .int mf, .int (nI mcd), .ref m3, .ref m4, .ref m5, .ref m6, .int (nI mev), .ref m7, .ref m8, .ref m9, .ref m10, .ref m11, .ref m12, .ref m13, .int mwh, .int mps, .ref m14, .ref m15, .long mlr, .int (nI mlt), .int (nI mlm), .ref m16, .int mln, .ref m17])), (m1, .inl (cI, 8, .inl (upd mp mt (nI n7)))), (m2, .inl (cI, 8, .inl mq))] := hDn
        replace hS := hSn
        clear hPn hDn hSn
        refine lv_aload_n hx hb d_Mo_transition_63 rfl (lv_at hl 0 rfl) ?_
        refine va_get (D := (dC, dI)) (ci := 9) (v := .ref m2) (C := "NetUnfolderModel") (T := T_Mo) (N := 28) hx hb ht in_Mo hown hK hP 0 rfl rfl 3 (by decide) (ht _ wd_4_3) (fun _ h9 => h9) rfl d_Mo_transition_64 ?_
        refine lv_aload_n hx hb d_Mo_transition_67 rfl (lv_at hl 0 rfl) ?_
        refine va_get (D := (dC, dI)) (ci := 9) (v := .int (nI mt)) (C := "NetUnfolderModel") (T := T_Mo) (N := 28) hx hb ht in_Mo hown hK hP 0 rfl rfl 1 (by decide) (ht _ wd_4_1) (fun _ h9 => h9) rfl d_Mo_transition_68 ?_
        refine lv_iload_n hx hb d_Mo_transition_71 rfl (lv_at hl 2 rfl) ?_
        refine na_iast (k := mt) hx hb hK hP hD hS 2 0 rfl rfl (by omega) (by decide) d_Mo_transition_72 (fun H17 locs hPn hDn hSn => ?_)
        replace hP : va_P (dC, dI) clA [(m0, .inr (9, [.int 0, .int (nI mt), .ref m1, .ref m2, .int mf, .int (nI mcd), .ref m3, .ref m4, .ref m5, .ref m6, .int (nI mev), .ref m7, .ref m8, .ref m9, .ref m10, .ref m11, .ref m12, .ref m13, .int mwh, .int mps, .ref m14, .ref m15, .long mlr, .int (nI mlt), .int (nI mlm), .ref m16, .int mln, .ref m17])), (m1, .inl (cI, 8, .inl (upd mp mt (nI n7)))), (m2, .inl (cI, 8, .inl (upd mq mt (nI n13))))] H17 := hPn
        replace hD : va_D A [(m0, .inr (9, [.int 0, .int (nI mt), .ref m1, .ref m2, .int mf, .int (nI mcd), .ref m3, .ref m4, .ref m5, .ref m6, .int (nI mev), .ref m7, .ref m8, .ref m9, .ref m10, .ref m11, .ref m12, .ref m13, .int mwh, .int mps, .ref m14, .ref m15, .long mlr, .int (nI mlt), .int (nI mlm), .ref m16, .int mln, .ref m17])), (m1, .inl (cI, 8, .inl (upd mp mt (nI n7)))), (m2, .inl (cI, 8, .inl (upd mq mt (nI n13))))] := hDn
        replace hS := hSn
        clear hPn hDn hSn
        refine lv_aload_n hx hb d_Mo_transition_73 rfl (lv_at hl 0 rfl) ?_
        refine lv_dup hx hb d_Mo_transition_74 rfl ?_
        refine va_get (D := (dC, dI)) (ci := 9) (v := .int (nI mt)) (C := "NetUnfolderModel") (T := T_Mo) (N := 28) hx hb ht in_Mo hown hK hP 0 rfl rfl 1 (by decide) (ht _ wd_4_1) (fun _ h9 => h9) rfl d_Mo_transition_75 ?_
        refine lv_iconst (v := 1) hx hb d_Mo_transition_78 (by decide) ?_
        refine lv_iadd hx hb d_Mo_transition_79 ?_
        refine ci_i (y := nI (mt + 1)) (cv_add mt 1) ?_
        refine va_put (D := (dC, dI)) (ci := 9) (v := .int (nI (mt + 1))) (ty := .int) (C := "NetUnfolderModel") (T := T_Mo) (N := 28) hx hb ht in_Mo ty_Mo ok_Mo nm_Mo hown hK hP hD hS 0 rfl rfl 1 (by decide) (ht _ wd_4_1) (fun _ h9 => h9) rfl (by decide +kernel) rfl rfl (Nat.le_of_ble_eq_true rfl) d_Mo_transition_80 (fun H18 locs hPn hDn hSn => ?_)
        replace hP : va_P (dC, dI) clA [(m0, .inr (9, [.int 0, .int (nI (mt + 1)), .ref m1, .ref m2, .int mf, .int (nI mcd), .ref m3, .ref m4, .ref m5, .ref m6, .int (nI mev), .ref m7, .ref m8, .ref m9, .ref m10, .ref m11, .ref m12, .ref m13, .int mwh, .int mps, .ref m14, .ref m15, .long mlr, .int (nI mlt), .int (nI mlm), .ref m16, .int mln, .ref m17])), (m1, .inl (cI, 8, .inl (upd mp mt (nI n7)))), (m2, .inl (cI, 8, .inl (upd mq mt (nI n13))))] H18 := hPn
        replace hD : va_D A [(m0, .inr (9, [.int 0, .int (nI (mt + 1)), .ref m1, .ref m2, .int mf, .int (nI mcd), .ref m3, .ref m4, .ref m5, .ref m6, .int (nI mev), .ref m7, .ref m8, .ref m9, .ref m10, .ref m11, .ref m12, .ref m13, .int mwh, .int mps, .ref m14, .ref m15, .long mlr, .int (nI mlt), .int (nI mlm), .ref m16, .int mln, .ref m17])), (m1, .inl (cI, 8, .inl (upd mp mt (nI n7)))), (m2, .inl (cI, 8, .inl (upd mq mt (nI n13))))] := hDn
        replace hS := hSn
        clear hPn hDn hSn
        refine lv_aload_n hx hb d_Mo_transition_83 rfl (lv_at hl 0 rfl) ?_
        have hPc := hP.sub (ws' := [(m0, .inr (9, [.int 0, .int (nI (mt + 1)), .ref m1, .ref m2, .int mf, .int (nI mcd), .ref m3, .ref m4, .ref m5, .ref m6, .int (nI mev), .ref m7, .ref m8, .ref m9, .ref m10, .ref m11, .ref m12, .ref m13, .int mwh, .int mps, .ref m14, .ref m15, .long mlr, .int (nI mlt), .int (nI mlm), .ref m16, .int mln, .ref m17]))]) [0] rfl
        have hDc := hD.sub (ws' := [(m0, .inr (9, [.int 0, .int (nI (mt + 1)), .ref m1, .ref m2, .int mf, .int (nI mcd), .ref m3, .ref m4, .ref m5, .ref m6, .int (nI mev), .ref m7, .ref m8, .ref m9, .ref m10, .ref m11, .ref m12, .ref m13, .int mwh, .int mps, .ref m14, .ref m15, .long mlr, .int (nI mlt), .int (nI mlm), .ref m16, .int mln, .ref m17]))]) [0] (by decide) rfl
        have hFc := va_free (wc := [(m0, .inr (9, [.int 0, .int (nI (mt + 1)), .ref m1, .ref m2, .int mf, .int (nI mcd), .ref m3, .ref m4, .ref m5, .ref m6, .int (nI mev), .ref m7, .ref m8, .ref m9, .ref m10, .ref m11, .ref m12, .ref m13, .int mwh, .int mps, .ref m14, .ref m15, .long mlr, .int (nI mlt), .int (nI mlm), .ref m16, .int mln, .ref m17]))]) hD hS hA [0] rfl
        refine va_callv (va_runV (C := "NetUnfolderModel") (As := []) (rest := []) ⟨hx, hb, hml, hown, ht⟩ (c_Mo_forget l dC dI cI cL cZ _ m0 m1 m2 m3 m4 m5 m6 m7 m8 m9 m10 m11 m12 m13 m14 m15 m16 m17 0 (mt + 1) mf mcd mev mwh mps mlr mlt mlm mln ) (cwV 0 ht (good_V wd_4_93 wd_4_95 ws_Mo_forget wd_1_10 wd_4_96) rfl rfl rfl (by decide +kernel) ⟨Nat.le_of_ble_eq_true rfl, Nat.le_of_ble_eq_true rfl⟩) ⟨fun a U g mk q => by obtain ⟨q0, q1, qP, qK, qD, qN⟩ := q; exact ⟨q0, q1, qP, va_K.moved (u := U) (U := U.calling g mk a) (Vm.Alike.refl U.vm) qK, qD, NwA.same (u := U) rfl qN⟩, (va_recv (q0 := 0) (ci := 9) hK hP rfl rfl), fun U hU hW => ⟨rfl, by rw [hU], by rw [hU]; exact hPc, va_K.moved hW.alike hK, hDc.weaken (fun _ _ _ _ => trivial), NwA.warm hW hN⟩⟩ rfl rfl hl.1 rfl (lv_room (Nat.le_of_ble_eq_true rfl)) d_Mo_transition_84 ⟨Nat.le_of_ble_eq_true rfl, Nat.le_of_ble_eq_true rfl⟩) hS (fun q _ h => hFc q h) hFc (fun u9 t9 H19 locs ht9 hvm hw20 hB hz1 hk1 hSn => ?_)
        obtain ⟨hP1, hD1⟩ := hB
        rw [ht9] at hP1
        obtain ⟨hPn, hDn⟩ := va_join (wr := [(m1, .inl (cI, 8, .inl (upd mp mt (nI n7)))), (m2, .inl (cI, 8, .inl (upd mq mt (nI n13))))]) (w1 := [(m0, .inr (9, [.int 0, .int (nI (mt + 1)), .ref m1, .ref m2, .int mf, .int 0, .ref m3, .ref m4, .ref m5, .ref m6, .int 0, .ref m7, .ref m8, .ref m9, .ref m10, .ref m11, .ref m12, .ref m13, .int 0, .int mps, .ref m14, .ref m15, .long mlr, .int (nI mlt), .int (nI mlm), .ref m16, .int (-1), .ref m17]))]) hP hD [0] [1, 2] rfl rfl (by decide) (by decide) hk1 hFc hP1 hD1
        replace hP : va_P (dC, dI) clA [(m1, .inl (cI, 8, .inl (upd mp mt (nI n7)))), (m2, .inl (cI, 8, .inl (upd mq mt (nI n13)))), (m0, .inr (9, [.int 0, .int (nI (mt + 1)), .ref m1, .ref m2, .int mf, .int 0, .ref m3, .ref m4, .ref m5, .ref m6, .int 0, .ref m7, .ref m8, .ref m9, .ref m10, .ref m11, .ref m12, .ref m13, .int 0, .int mps, .ref m14, .ref m15, .long mlr, .int (nI mlt), .int (nI mlm), .ref m16, .int (-1), .ref m17]))] H19 := hPn
        replace hD : va_D A [(m1, .inl (cI, 8, .inl (upd mp mt (nI n7)))), (m2, .inl (cI, 8, .inl (upd mq mt (nI n13)))), (m0, .inr (9, [.int 0, .int (nI (mt + 1)), .ref m1, .ref m2, .int mf, .int 0, .ref m3, .ref m4, .ref m5, .ref m6, .int 0, .ref m7, .ref m8, .ref m9, .ref m10, .ref m11, .ref m12, .ref m13, .int 0, .int mps, .ref m14, .ref m15, .long mlr, .int (nI mlt), .int (nI mlm), .ref m16, .int (-1), .ref m17]))] := hDn
        replace hS := hSn
        clear hPn hDn hSn
        clear hPc hDc hFc hP1 hD1 hk1 hz1 ht9 hvm
        refine W.cs (cells' := 0) (slots' := 0) rfl rfl ?_
        refine lv_aload_n hx hb d_Mo_transition_87 rfl (lv_at hl 0 rfl) ?_
        refine va_get (D := (dC, dI)) (ci := 9) (v := .int (nI (mt + 1))) (C := "NetUnfolderModel") (T := T_Mo) (N := 28) hx hb ht in_Mo hown hK hP 2 rfl rfl 1 (by decide) (ht _ wd_4_1) (fun _ h9 => h9) rfl d_Mo_transition_88 ?_
        refine lv_iconst (v := 1) hx hb d_Mo_transition_91 (by decide) ?_
        refine lv_isub hx hb d_Mo_transition_92 ?_
        refine ci_i (y := nI ((mt + 1) - 1)) (cv_sub (a := (mt + 1)) (b := 1) (by omega)) ?_
        have hP9 := hP.sub (ws' := [(m0, .inr (9, [.int 0, .int (nI (mt + 1)), .ref m1, .ref m2, .int mf, .int 0, .ref m3, .ref m4, .ref m5, .ref m6, .int 0, .ref m7, .ref m8, .ref m9, .ref m10, .ref m11, .ref m12, .ref m13, .int 0, .int mps, .ref m14, .ref m15, .long mlr, .int (nI mlt), .int (nI mlm), .ref m16, .int (-1), .ref m17])), (m1, .inl (cI, 8, .inl (upd mp mt (nI n7)))), (m2, .inl (cI, 8, .inl (upd mq mt (nI n13))))]) [2, 0, 1] rfl
        have hD9 := hD.sub (ws' := [(m0, .inr (9, [.int 0, .int (nI (mt + 1)), .ref m1, .ref m2, .int mf, .int 0, .ref m3, .ref m4, .ref m5, .ref m6, .int 0, .ref m7, .ref m8, .ref m9, .ref m10, .ref m11, .ref m12, .ref m13, .int 0, .int mps, .ref m14, .ref m15, .long mlr, .int (nI mlt), .int (nI mlm), .ref m16, .int (-1), .ref m17])), (m1, .inl (cI, 8, .inl (upd mp mt (nI n7)))), (m2, .inl (cI, 8, .inl (upd mq mt (nI n13))))]) [2, 0, 1] (by decide) rfl
        subst hQ
        exact W.iret (v := nI ((mt + 1) - 1)) hx hb hr (fun t9 ht9 hW => ⟨⟨nI ((mt + 1) - 1), (), rfl, (fun _ => (congrArg nI (by omega))), (mt + 1), (upd mp mt (nI n7)), (upd mq mt (nI n13)), 0, 0, 0, 0, (-1), (Or.inr ⟨rfl, rfl, rfl⟩), (by first | assumption | omega | trivial | exact AllLt.zero | exact AllN.zero | exact AllM.zero | exact Or.inl rfl | exact Or.inr rfl), (PreI.push hmp (by omega) (by assumption)), (AllLt.put hmq (by omega)), (trv_0 (nI_n0 n7_a n7_b) (nI_mv n7_b) (nI_mv n13_b) (by omega)).symm, (Or.inl ⟨(trv_0 (nI_n0 n7_a n7_b) (nI_mv n7_b) (nI_mv n13_b) (by omega)), rfl, rfl, rfl, rfl, rfl⟩), by rw [ht9]; exact hP9, hD9⟩, hS.F ht9⟩) hS.2.2 d_Mo_transition_93
      · skip
        replace hb14 := cv_eq (a := mt) (b := 8) (by omega) (by omega) hb14
        refine lv_iconst (v := 2) hx hb d_Mo_transition_36 (by decide) ?_
        refine lv_goto (tgt := 41) hx hb d_Mo_transition_37 (by decide) ?_
        refine va_put (D := (dC, dI)) (ci := 9) (v := .int 2) (ty := .int) (C := "NetUnfolderModel") (T := T_Mo) (N := 28) hx hb ht in_Mo ty_Mo ok_Mo nm_Mo hown hK hP hD hS 0 rfl rfl 0 (by decide) (ht _ wd_4_0) (fun _ h9 => h9) rfl (by decide +kernel) rfl rfl (Nat.le_of_ble_eq_true rfl) d_Mo_transition_41 (fun H22 locs hPn hDn hSn => ?_)
        replace hP : va_P (dC, dI) clA [(m0, .inr (9, [.int 2, .int (nI mt), .ref m1, .ref m2, .int mf, .int (nI mcd), .ref m3, .ref m4, .ref m5, .ref m6, .int (nI mev), .ref m7, .ref m8, .ref m9, .ref m10, .ref m11, .ref m12, .ref m13, .int mwh, .int mps, .ref m14, .ref m15, .long mlr, .int (nI mlt), .int (nI mlm), .ref m16, .int mln, .ref m17])), (m1, .inl (cI, 8, .inl mp)), (m2, .inl (cI, 8, .inl mq))] H22 := hPn
        replace hD : va_D A [(m0, .inr (9, [.int 2, .int (nI mt), .ref m1, .ref m2, .int mf, .int (nI mcd), .ref m3, .ref m4, .ref m5, .ref m6, .int (nI mev), .ref m7, .ref m8, .ref m9, .ref m10, .ref m11, .ref m12, .ref m13, .int mwh, .int mps, .ref m14, .ref m15, .long mlr, .int (nI mlt), .int (nI mlm), .ref m16, .int mln, .ref m17])), (m1, .inl (cI, 8, .inl mp)), (m2, .inl (cI, 8, .inl mq))] := hDn
        replace hS := hSn
        clear hPn hDn hSn
        refine lv_aload_n hx hb d_Mo_transition_44 rfl (lv_at hl 0 rfl) ?_
        refine va_get (D := (dC, dI)) (ci := 9) (v := .int 2) (C := "NetUnfolderModel") (T := T_Mo) (N := 28) hx hb ht in_Mo hown hK hP 0 rfl rfl 0 (by decide) (ht _ wd_4_0) (fun _ h9 => h9) rfl d_Mo_transition_45 ?_
        refine lv_if_eq (tgt := 53) hx hb d_Mo_transition_48 (by decide) (fun h => absurd h (by decide)) (fun _ => ?_)
        refine lv_iconst (v := 0) hx hb d_Mo_transition_51 (by decide) ?_
        have hP9 := hP.sub (ws' := [(m0, .inr (9, [.int 2, .int (nI mt), .ref m1, .ref m2, .int mf, .int (nI mcd), .ref m3, .ref m4, .ref m5, .ref m6, .int (nI mev), .ref m7, .ref m8, .ref m9, .ref m10, .ref m11, .ref m12, .ref m13, .int mwh, .int mps, .ref m14, .ref m15, .long mlr, .int (nI mlt), .int (nI mlm), .ref m16, .int mln, .ref m17])), (m1, .inl (cI, 8, .inl mp)), (m2, .inl (cI, 8, .inl mq))]) [0, 1, 2] rfl
        have hD9 := hD.sub (ws' := [(m0, .inr (9, [.int 2, .int (nI mt), .ref m1, .ref m2, .int mf, .int (nI mcd), .ref m3, .ref m4, .ref m5, .ref m6, .int (nI mev), .ref m7, .ref m8, .ref m9, .ref m10, .ref m11, .ref m12, .ref m13, .int mwh, .int mps, .ref m14, .ref m15, .long mlr, .int (nI mlt), .int (nI mlm), .ref m16, .int mln, .ref m17])), (m1, .inl (cI, 8, .inl mp)), (m2, .inl (cI, 8, .inl mq))]) [0, 1, 2] (by decide) rfl
        subst hQ
        exact W.iret (v := 0) hx hb hr (fun t9 ht9 hW => ⟨⟨0, (), rfl, (fun q => absurd q (by rw [(trv_2 (nI_n0 n7_a n7_b) (nI_mv n7_b) (nI_mv n13_b) (by omega))]; decide)), mt, mp, mq, 2, mev, mcd, mwh, mln, (Or.inl ⟨rfl, rfl, rfl⟩), (by first | assumption | omega | trivial | exact AllLt.zero | exact AllN.zero | exact AllM.zero | exact Or.inl rfl | exact Or.inr rfl), hmp, hmq, (trv_2 (nI_n0 n7_a n7_b) (nI_mv n7_b) (nI_mv n13_b) (by omega)).symm, (Or.inr ⟨by rw [(trv_2 (nI_n0 n7_a n7_b) (nI_mv n7_b) (nI_mv n13_b) (by omega))]; decide, rfl, rfl, rfl, rfl, rfl⟩), by rw [ht9]; exact hP9, hD9⟩, hS.F ht9⟩) hS.2.2 d_Mo_transition_52
    · skip
      refine lv_iconst (v := 1) hx hb d_Mo_transition_23 (by decide) ?_
      refine lv_goto (tgt := 41) hx hb d_Mo_transition_24 (by decide) ?_
      refine va_put (D := (dC, dI)) (ci := 9) (v := .int 1) (ty := .int) (C := "NetUnfolderModel") (T := T_Mo) (N := 28) hx hb ht in_Mo ty_Mo ok_Mo nm_Mo hown hK hP hD hS 0 rfl rfl 0 (by decide) (ht _ wd_4_0) (fun _ h9 => h9) rfl (by decide +kernel) rfl rfl (Nat.le_of_ble_eq_true rfl) d_Mo_transition_41 (fun H23 locs hPn hDn hSn => ?_)
      replace hP : va_P (dC, dI) clA [(m0, .inr (9, [.int 1, .int (nI mt), .ref m1, .ref m2, .int mf, .int (nI mcd), .ref m3, .ref m4, .ref m5, .ref m6, .int (nI mev), .ref m7, .ref m8, .ref m9, .ref m10, .ref m11, .ref m12, .ref m13, .int mwh, .int mps, .ref m14, .ref m15, .long mlr, .int (nI mlt), .int (nI mlm), .ref m16, .int mln, .ref m17])), (m1, .inl (cI, 8, .inl mp)), (m2, .inl (cI, 8, .inl mq))] H23 := hPn
      replace hD : va_D A [(m0, .inr (9, [.int 1, .int (nI mt), .ref m1, .ref m2, .int mf, .int (nI mcd), .ref m3, .ref m4, .ref m5, .ref m6, .int (nI mev), .ref m7, .ref m8, .ref m9, .ref m10, .ref m11, .ref m12, .ref m13, .int mwh, .int mps, .ref m14, .ref m15, .long mlr, .int (nI mlt), .int (nI mlm), .ref m16, .int mln, .ref m17])), (m1, .inl (cI, 8, .inl mp)), (m2, .inl (cI, 8, .inl mq))] := hDn
      replace hS := hSn
      clear hPn hDn hSn
      refine lv_aload_n hx hb d_Mo_transition_44 rfl (lv_at hl 0 rfl) ?_
      refine va_get (D := (dC, dI)) (ci := 9) (v := .int 1) (C := "NetUnfolderModel") (T := T_Mo) (N := 28) hx hb ht in_Mo hown hK hP 0 rfl rfl 0 (by decide) (ht _ wd_4_0) (fun _ h9 => h9) rfl d_Mo_transition_45 ?_
      refine lv_if_eq (tgt := 53) hx hb d_Mo_transition_48 (by decide) (fun h => absurd h (by decide)) (fun _ => ?_)
      refine lv_iconst (v := 0) hx hb d_Mo_transition_51 (by decide) ?_
      have hP9 := hP.sub (ws' := [(m0, .inr (9, [.int 1, .int (nI mt), .ref m1, .ref m2, .int mf, .int (nI mcd), .ref m3, .ref m4, .ref m5, .ref m6, .int (nI mev), .ref m7, .ref m8, .ref m9, .ref m10, .ref m11, .ref m12, .ref m13, .int mwh, .int mps, .ref m14, .ref m15, .long mlr, .int (nI mlt), .int (nI mlm), .ref m16, .int mln, .ref m17])), (m1, .inl (cI, 8, .inl mp)), (m2, .inl (cI, 8, .inl mq))]) [0, 1, 2] rfl
      have hD9 := hD.sub (ws' := [(m0, .inr (9, [.int 1, .int (nI mt), .ref m1, .ref m2, .int mf, .int (nI mcd), .ref m3, .ref m4, .ref m5, .ref m6, .int (nI mev), .ref m7, .ref m8, .ref m9, .ref m10, .ref m11, .ref m12, .ref m13, .int mwh, .int mps, .ref m14, .ref m15, .long mlr, .int (nI mlt), .int (nI mlm), .ref m16, .int mln, .ref m17])), (m1, .inl (cI, 8, .inl mp)), (m2, .inl (cI, 8, .inl mq))]) [0, 1, 2] (by decide) rfl
      subst hQ
      exact W.iret (v := 0) hx hb hr (fun t9 ht9 hW => ⟨⟨0, (), rfl, (fun q => absurd q (by rw [(trv_1 (Or.inr (Or.inr (out_m1 (out_1 hr11 hb12)))))]; decide)), mt, mp, mq, 1, mev, mcd, mwh, mln, (Or.inl ⟨rfl, rfl, rfl⟩), (by first | assumption | omega | trivial | exact AllLt.zero | exact AllN.zero | exact AllM.zero | exact Or.inl rfl | exact Or.inr rfl), hmp, hmq, (trv_1 (Or.inr (Or.inr (out_m1 (out_1 hr11 hb12))))).symm, (Or.inr ⟨by rw [(trv_1 (Or.inr (Or.inr (out_m1 (out_1 hr11 hb12)))))]; decide, rfl, rfl, rfl, rfl, rfl⟩), by rw [ht9]; exact hP9, hD9⟩, hS.F ht9⟩) hS.2.2 d_Mo_transition_52
