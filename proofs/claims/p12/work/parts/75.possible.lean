set_option maxHeartbeats 4000000 in
set_option maxRecDepth 100000 in
theorem e_Po_add (l : Launch) (dC : Nat → ClassId) (dI : Nat → Nat → Nat) (cI cL cZ : ClassId) (sz : Nat) (o0 : Nat) (o1 : Nat) (o2 : Nat) (o3 : Nat) (f0 : Nat) (oz : Nat) (otr : Nat → Int32) (otn : Nat → Int64) (ork : Nat → Int64) (k : Nat) (x : Int64) (y : Int64) (el : List Ent) (rk : Ent → Nat) (L : List Nat) (hoz : oz ≤ 201) (hot : AllLt otr oz 8) (ht8 : k < 8) (hPoR : PoR el oz otr otn ork rk) (hXB : B64 x (fun c => c ∈ L)) (hy : y = lN (rk (k, L))) : Met l y_Po_add (Cond.code y_Po_add prog_4_method_4_code 6 none :: wsA) { frames := 1, cells := 0, slots := 0, locals := 20 } (va_Pc [.ref o0, .int (nI k), .long x, .long y] (fun U => U.heap.size = sz ∧ va_P (dC, dI) clA [(o0, .inr (5, [.ref f0, .int (nI oz), .ref o1, .ref o2, .ref o3])), (o1, .inl (cI, 201, .inl otr)), (o2, .inl (cL, 201, .inr (.inl otn))), (o3, .inl (cL, 201, .inr (.inl ork)))] U.heap ∧ va_K (dC, dI) clA [(cI, .int), (cL, .long), (cZ, .boolean)] U ∧ va_D (fun _ => True) [(o0, .inr (5, [.ref f0, .int (nI oz), .ref o1, .ref o2, .ref o3])), (o1, .inl (cI, 201, .inl otr)), (o2, .inl (cL, 201, .inr (.inl otn))), (o3, .inl (cL, 201, .inr (.inl ork)))] ∧ NwA U)) (va_Qv (fun _ : Unit => True) (fun _ t => ∃ (oz1 : Nat), ∃ (otr1 : Nat → Int32), ∃ (otn1 : Nat → Int64), ∃ (ork1 : Nat → Int64), (oz1 ≤ 201) ∧ (AllLt otr1 oz1 8) ∧ (PoR (el ++ [(k, L)]) oz1 otr1 otn1 ork1 rk) ∧ va_P (dC, dI) clA [(o0, .inr (5, [.ref f0, .int (nI oz1), .ref o1, .ref o2, .ref o3])), (o1, .inl (cI, 201, .inl otr1)), (o2, .inl (cL, 201, .inr (.inl otn1))), (o3, .inl (cL, 201, .inr (.inl ork1)))] t.heap ∧ va_D (va_A [(o0, .inr (5, [.ref f0, .int (nI oz), .ref o1, .ref o2, .ref o3])), (o1, .inl (cI, 201, .inl otr)), (o2, .inl (cL, 201, .inr (.inl otn))), (o3, .inl (cL, 201, .inr (.inl ork)))] sz) [(o0, .inr (5, [.ref f0, .int (nI oz1), .ref o1, .ref o2, .ref o3])), (o1, .inl (cI, 201, .inl otr1)), (o2, .inl (cL, 201, .inr (.inl otn1))), (o3, .inl (cL, 201, .inr (.inl ork1)))]) (va_A [(o0, .inr (5, [.ref f0, .int (nI oz), .ref o1, .ref o2, .ref o3])), (o1, .inl (cI, 201, .inl otr)), (o2, .inl (cL, 201, .inr (.inl otn))), (o3, .inl (cL, 201, .inr (.inl ork)))] sz)) 0 0 (va_A [(o0, .inr (5, [.ref f0, .int (nI oz), .ref o1, .ref o2, .ref o3])), (o1, .inl (cI, 201, .inl otr)), (o2, .inl (cL, 201, .inr (.inl otn))), (o3, .inl (cL, 201, .inr (.inl ork)))] sz) := by
  refine Met.ofW (cc := prog_4_method_4_code) (maxL := 6) (ret := none) (by decide) rfl ?_
  intro p e s m args below meth c s₁ B hml hv
  obtain ⟨rfl, hsz, hP, hK, hD0, hN⟩ := hv
  have hx := B.exec
  have hb := B.bytes
  have hr := B.returns
  have ht : ∀ w ∈ wsA, w.before _ s = true := fun w h => atoms_spec (ws := (Cond.code y_Po_add prog_4_method_4_code 6 none :: wsA)) B.pre w (List.mem_cons_of_mem _ h)
  have hown : s.vm.findClass "NetUnfolder$Possible" = some m.cls := findClass_of_methodNamed B.named
  have hlocks := B.notSynchronized
  subst hsz
  have hD := hD0.self (sz := s.heap.size)
  generalize hAe : va_A [(o0, .inr (5, [.ref f0, .int (nI oz), .ref o1, .ref o2, .ref o3])), (o1, .inl (cI, 201, .inl otr)), (o2, .inl (cL, 201, .inr (.inl otn))), (o3, .inl (cL, 201, .inr (.inl ork)))] s.heap.size = A at hD ⊢
  have hA : ∀ q : Nat, s.heap.size ≤ q → A q := fun q h => by rw [← hAe]; exact Or.inr h
  have hS : va_S A s.heap s.heap [] := va_S.rf
  have hl := lv_entry ([.ref o0, .int (nI k), .long x, .long y]) (n := 6) (Nat.le_of_ble_eq_true rfl)
  rw [lg_entry_eq]
  generalize (lg_sl ([.ref o0, .int (nI k), .long x, .long y]) ++ List.replicate (6 - (lg_sl ([.ref o0, .int (nI k), .long x, .long y])).length) Slot.unset).toArray = ls at hl ⊢
  replace hl : lv_has ls 6 [(0, .ref o0), (1, .int (nI k)), (2, .long x), (4, .long y)] := hl
  refine W_Q (fun Q hQ => ?_)
  refine lv_aload_n hx hb d_Po_add_0 rfl (lv_at hl 0 rfl) ?_
  have hPc := hP.sub (ws' := [(o0, .inr (5, [.ref f0, .int (nI oz), .ref o1, .ref o2, .ref o3]))]) [0] rfl
  have hDc := hD.sub (ws' := [(o0, .inr (5, [.ref f0, .int (nI oz), .ref o1, .ref o2, .ref o3]))]) [0] (by decide) rfl
  have hFc := va_free (wc := [(o0, .inr (5, [.ref f0, .int (nI oz), .ref o1, .ref o2, .ref o3]))]) hD hS hA [0] rfl
  refine va_calli (va_runV (C := "NetUnfolder$Possible") (As := []) (rest := []) ⟨hx, hb, hml, hown, ht⟩ (c_Po_tooMany l dC dI cI cL cZ _ o0 o1 o2 o3 f0 oz (by first | assumption | omega | trivial | exact AllLt.zero | exact AllN.zero | exact AllM.zero | exact Or.inl rfl | exact Or.inr rfl)) (cwV 0 ht (good_V wd_2_134 wd_2_113 wd_2_114 wd_1_6 wd_2_115) rfl rfl rfl (by decide +kernel) ⟨Nat.le_of_ble_eq_true rfl, Nat.le_of_ble_eq_true rfl⟩) ⟨fun a U g mk q => by obtain ⟨q0, q1, qP, qK, qD, qN⟩ := q; exact ⟨q0, q1, qP, va_K.moved (u := U) (U := U.calling g mk a) (Vm.Alike.refl U.vm) qK, qD, NwA.same (u := U) rfl qN⟩, (va_recv (q0 := 0) (ci := 5) hK hP rfl rfl), fun U hU hW => ⟨rfl, by rw [hU], by rw [hU]; exact hPc, va_K.moved hW.alike hK, hDc.weaken (fun _ _ _ _ => trivial), NwA.warm hW hN⟩⟩ rfl rfl hl.1 rfl (lv_room (Nat.le_of_ble_eq_true rfl)) d_Po_add_1 ⟨Nat.le_of_ble_eq_true rfl, Nat.le_of_ble_eq_true rfl⟩) hS (fun q _ h => hFc q h) hFc (fun r3 u9 t9 H1 locs ht9 hvm hw2 hB hz1 hk1 hSn => ?_)
  obtain ⟨hP1, hD1⟩ := hB
  rw [ht9] at hP1
  obtain ⟨hPn, hDn⟩ := va_join (wr := [(o1, .inl (cI, 201, .inl otr)), (o2, .inl (cL, 201, .inr (.inl otn))), (o3, .inl (cL, 201, .inr (.inl ork)))]) (w1 := [(o0, .inr (5, [.ref f0, .int (nI oz), .ref o1, .ref o2, .ref o3]))]) hP hD [0] [1, 2, 3] rfl rfl (by decide) (by decide) hk1 hFc hP1 hD1
  replace hP : va_P (dC, dI) clA [(o1, .inl (cI, 201, .inl otr)), (o2, .inl (cL, 201, .inr (.inl otn))), (o3, .inl (cL, 201, .inr (.inl ork))), (o0, .inr (5, [.ref f0, .int (nI oz), .ref o1, .ref o2, .ref o3]))] H1 := hPn
  replace hD : va_D A [(o1, .inl (cI, 201, .inl otr)), (o2, .inl (cL, 201, .inr (.inl otn))), (o3, .inl (cL, 201, .inr (.inl ork))), (o0, .inr (5, [.ref f0, .int (nI oz), .ref o1, .ref o2, .ref o3]))] := hDn
  replace hS := hSn
  clear hPn hDn hSn
  clear hPc hDc hFc hP1 hD1 hk1 hz1 ht9 hvm
  refine W.cs (cells' := 0) (slots' := 0) rfl rfl ?_
  subst hw2
  refine lv_if_ne (tgt := 48) hx hb d_Po_add_4 (by decide) (fun hb4 => ?_) (fun hb4 => ?_)
  · skip
    have hP9 := hP.sub (ws' := [(o0, .inr (5, [.ref f0, .int (nI oz), .ref o1, .ref o2, .ref o3])), (o1, .inl (cI, 201, .inl otr)), (o2, .inl (cL, 201, .inr (.inl otn))), (o3, .inl (cL, 201, .inr (.inl ork)))]) [3, 0, 1, 2] rfl
    have hD9 := hD.sub (ws' := [(o0, .inr (5, [.ref f0, .int (nI oz), .ref o1, .ref o2, .ref o3])), (o1, .inl (cI, 201, .inl otr)), (o2, .inl (cL, 201, .inr (.inl otn))), (o3, .inl (cL, 201, .inr (.inl ork)))]) [3, 0, 1, 2] (by decide) rfl
    subst hQ
    exact W.vret hx hb hr (fun t9 ht9 hW => ⟨⟨(), rfl, trivial, oz, otr, otn, ork, (by first | assumption | omega | trivial | exact AllLt.zero | exact AllN.zero | exact AllM.zero | exact Or.inl rfl | exact Or.inr rfl), (by first | assumption | exact AllLt.push hot ht8), (PoR.sat hPoR (too_1 hb4) _), by rw [ht9]; exact hP9, hD9⟩, hS.F ht9⟩) hS.2.2 d_Po_add_48
  · skip
    have hz9 := tooM_0' hb4
    refine lv_aload_n hx hb d_Po_add_7 rfl (lv_at hl 0 rfl) ?_
    refine va_get (D := (dC, dI)) (ci := 5) (v := .ref o1) (C := "NetUnfolder$Possible") (T := T_Po) (N := 5) hx hb ht in_Po hown hK hP 3 rfl rfl 2 (by decide) (ht _ wd_1_167) (fun _ h9 => h9) rfl d_Po_add_8 ?_
    refine lv_aload_n hx hb d_Po_add_11 rfl (lv_at hl 0 rfl) ?_
    refine va_get (D := (dC, dI)) (ci := 5) (v := .int (nI oz)) (C := "NetUnfolder$Possible") (T := T_Po) (N := 5) hx hb ht in_Po hown hK hP 3 rfl rfl 1 (by decide) (ht _ wd_1_165) (fun _ h9 => h9) rfl d_Po_add_12 ?_
    refine lv_iload_n hx hb d_Po_add_15 rfl (lv_at hl 1 rfl) ?_
    refine na_iast (k := oz) hx hb hK hP hD hS 0 0 rfl rfl (by omega) (by decide) d_Po_add_16 (fun H5 locs hPn hDn hSn => ?_)
    replace hP : va_P (dC, dI) clA [(o1, .inl (cI, 201, .inl (upd otr oz (nI k)))), (o2, .inl (cL, 201, .inr (.inl otn))), (o3, .inl (cL, 201, .inr (.inl ork))), (o0, .inr (5, [.ref f0, .int (nI oz), .ref o1, .ref o2, .ref o3]))] H5 := hPn
    replace hD : va_D A [(o1, .inl (cI, 201, .inl (upd otr oz (nI k)))), (o2, .inl (cL, 201, .inr (.inl otn))), (o3, .inl (cL, 201, .inr (.inl ork))), (o0, .inr (5, [.ref f0, .int (nI oz), .ref o1, .ref o2, .ref o3]))] := hDn
    replace hS := hSn
    clear hPn hDn hSn
    refine lv_aload_n hx hb d_Po_add_17 rfl (lv_at hl 0 rfl) ?_
    refine va_get (D := (dC, dI)) (ci := 5) (v := .ref o2) (C := "NetUnfolder$Possible") (T := T_Po) (N := 5) hx hb ht in_Po hown hK hP 3 rfl rfl 3 (by decide) (ht _ wd_1_169) (fun _ h9 => h9) rfl d_Po_add_18 ?_
    refine lv_aload_n hx hb d_Po_add_21 rfl (lv_at hl 0 rfl) ?_
    refine va_get (D := (dC, dI)) (ci := 5) (v := .int (nI oz)) (C := "NetUnfolder$Possible") (T := T_Po) (N := 5) hx hb ht in_Po hown hK hP 3 rfl rfl 1 (by decide) (ht _ wd_1_165) (fun _ h9 => h9) rfl d_Po_add_22 ?_
    refine lv_lload_n hx hb d_Po_add_25 rfl (lv_at hl 2 rfl) ?_
    refine na_last (k := oz) hx hb hK hP hD hS 1 1 rfl rfl (by omega) (by decide) d_Po_add_26 (fun H6 locs hPn hDn hSn => ?_)
    replace hP : va_P (dC, dI) clA [(o1, .inl (cI, 201, .inl (upd otr oz (nI k)))), (o2, .inl (cL, 201, .inr (.inl (vp_updL otn oz x)))), (o3, .inl (cL, 201, .inr (.inl ork))), (o0, .inr (5, [.ref f0, .int (nI oz), .ref o1, .ref o2, .ref o3]))] H6 := hPn
    replace hD : va_D A [(o1, .inl (cI, 201, .inl (upd otr oz (nI k)))), (o2, .inl (cL, 201, .inr (.inl (vp_updL otn oz x)))), (o3, .inl (cL, 201, .inr (.inl ork))), (o0, .inr (5, [.ref f0, .int (nI oz), .ref o1, .ref o2, .ref o3]))] := hDn
    replace hS := hSn
    clear hPn hDn hSn
    refine lv_aload_n hx hb d_Po_add_27 rfl (lv_at hl 0 rfl) ?_
    refine va_get (D := (dC, dI)) (ci := 5) (v := .ref o3) (C := "NetUnfolder$Possible") (T := T_Po) (N := 5) hx hb ht in_Po hown hK hP 3 rfl rfl 4 (by decide) (ht _ wd_1_171) (fun _ h9 => h9) rfl d_Po_add_28 ?_
    refine lv_aload_n hx hb d_Po_add_31 rfl (lv_at hl 0 rfl) ?_
    refine va_get (D := (dC, dI)) (ci := 5) (v := .int (nI oz)) (C := "NetUnfolder$Possible") (T := T_Po) (N := 5) hx hb ht in_Po hown hK hP 3 rfl rfl 1 (by decide) (ht _ wd_1_165) (fun _ h9 => h9) rfl d_Po_add_32 ?_
    refine lv_lload hx hb d_Po_add_35 (lv_at hl 3 rfl) ?_
    refine na_last (k := oz) hx hb hK hP hD hS 2 1 rfl rfl (by omega) (by decide) d_Po_add_37 (fun H7 locs hPn hDn hSn => ?_)
    replace hP : va_P (dC, dI) clA [(o1, .inl (cI, 201, .inl (upd otr oz (nI k)))), (o2, .inl (cL, 201, .inr (.inl (vp_updL otn oz x)))), (o3, .inl (cL, 201, .inr (.inl (vp_updL ork oz y)))), (o0, .inr (5, [.ref f0, .int (nI oz), .ref o1, .ref o2, .ref o3]))] H7 := hPn
    replace hD : va_D A [(o1, .inl (cI, 201, .inl (upd otr oz (nI k)))), (o2, .inl (cL, 201, .inr (.inl (vp_updL otn oz x)))), (o3, .inl (cL, 201, .inr (.inl (vp_updL ork oz y)))), (o0, .inr (5, [.ref f0, .int (nI oz), .ref o1, .ref o2, .ref o3]))] := hDn
    replace hS := hSn
    clear hPn hDn hSn
    refine lv_aload_n hx hb d_Po_add_38 rfl (lv_at hl 0 rfl) ?_
    refine lv_dup hx hb d_Po_add_39 rfl ?_
    refine va_get (D := (dC, dI)) (ci := 5) (v := .int (nI oz)) (C := "NetUnfolder$Possible") (T := T_Po) (N := 5) hx hb ht in_Po hown hK hP 3 rfl rfl 1 (by decide) (ht _ wd_1_165) (fun _ h9 => h9) rfl d_Po_add_40 ?_
    refine lv_iconst (v := 1) hx hb d_Po_add_43 (by decide) ?_
    refine lv_iadd hx hb d_Po_add_44 ?_
    refine ci_i (y := nI (oz + 1)) (cv_add oz 1) ?_
    refine va_put (D := (dC, dI)) (ci := 5) (v := .int (nI (oz + 1))) (ty := .int) (C := "NetUnfolder$Possible") (T := T_Po) (N := 5) hx hb ht in_Po ty_Po ok_Po nm_Po hown hK hP hD hS 3 rfl rfl 1 (by decide) (ht _ wd_1_165) (fun _ h9 => h9) rfl (by decide +kernel) rfl rfl (Nat.le_of_ble_eq_true rfl) d_Po_add_45 (fun H8 locs hPn hDn hSn => ?_)
    replace hP : va_P (dC, dI) clA [(o1, .inl (cI, 201, .inl (upd otr oz (nI k)))), (o2, .inl (cL, 201, .inr (.inl (vp_updL otn oz x)))), (o3, .inl (cL, 201, .inr (.inl (vp_updL ork oz y)))), (o0, .inr (5, [.ref f0, .int (nI (oz + 1)), .ref o1, .ref o2, .ref o3]))] H8 := hPn
    replace hD : va_D A [(o1, .inl (cI, 201, .inl (upd otr oz (nI k)))), (o2, .inl (cL, 201, .inr (.inl (vp_updL otn oz x)))), (o3, .inl (cL, 201, .inr (.inl (vp_updL ork oz y)))), (o0, .inr (5, [.ref f0, .int (nI (oz + 1)), .ref o1, .ref o2, .ref o3]))] := hDn
    replace hS := hSn
    clear hPn hDn hSn
    have hP9 := hP.sub (ws' := [(o0, .inr (5, [.ref f0, .int (nI (oz + 1)), .ref o1, .ref o2, .ref o3])), (o1, .inl (cI, 201, .inl (upd otr oz (nI k)))), (o2, .inl (cL, 201, .inr (.inl (vp_updL otn oz x)))), (o3, .inl (cL, 201, .inr (.inl (vp_updL ork oz y))))]) [3, 0, 1, 2] rfl
    have hD9 := hD.sub (ws' := [(o0, .inr (5, [.ref f0, .int (nI (oz + 1)), .ref o1, .ref o2, .ref o3])), (o1, .inl (cI, 201, .inl (upd otr oz (nI k)))), (o2, .inl (cL, 201, .inr (.inl (vp_updL otn oz x)))), (o3, .inl (cL, 201, .inr (.inl (vp_updL ork oz y))))]) [3, 0, 1, 2] (by decide) rfl
    subst hQ
    exact W.vret hx hb hr (fun t9 ht9 hW => ⟨⟨(), rfl, trivial, (oz + 1), (upd otr oz (nI k)), (vp_updL otn oz x), (vp_updL ork oz y), (by first | assumption | omega | trivial | exact AllLt.zero | exact AllN.zero | exact AllM.zero | exact Or.inl rfl | exact Or.inr rfl), (by first | assumption | exact AllLt.push hot ht8), (by rw [hy]; exact PoR.add (x := (k, L)) hPoR hz9 hXB), by rw [ht9]; exact hP9, hD9⟩, hS.F ht9⟩) hS.2.2 d_Po_add_48

set_option maxHeartbeats 4000000 in
set_option maxRecDepth 100000 in
theorem e_Po_remove (l : Launch) (dC : Nat → ClassId) (dI : Nat → Nat → Nat) (cI cL cZ : ClassId) (sz : Nat) (o0 : Nat) (o1 : Nat) (o2 : Nat) (o3 : Nat) (f0 : Nat) (oz : Nat) (otr : Nat → Int32) (otn : Nat → Int64) (ork : Nat → Int64) (k : Nat) (el : List Ent) (rk : Ent → Nat) (hoz : oz ≤ 201) (hot : AllLt otr oz 8) (hlen : el.length ≤ 200) (hozl : oz = el.length) (hPos : PosI el otr otn ork rk) (hk : k < el.length) : Met l y_Po_remove (Cond.code y_Po_remove prog_4_method_5_code 2 none :: wsA) { frames := 0, cells := 0, slots := 0, locals := 0 } (va_Pc [.ref o0, .int (nI k)] (fun U => U.heap.size = sz ∧ va_P (dC, dI) clA [(o0, .inr (5, [.ref f0, .int (nI oz), .ref o1, .ref o2, .ref o3])), (o1, .inl (cI, 201, .inl otr)), (o2, .inl (cL, 201, .inr (.inl otn))), (o3, .inl (cL, 201, .inr (.inl ork)))] U.heap ∧ va_K (dC, dI) clA [(cI, .int), (cL, .long), (cZ, .boolean)] U ∧ va_D (fun _ => True) [(o0, .inr (5, [.ref f0, .int (nI oz), .ref o1, .ref o2, .ref o3])), (o1, .inl (cI, 201, .inl otr)), (o2, .inl (cL, 201, .inr (.inl otn))), (o3, .inl (cL, 201, .inr (.inl ork)))] ∧ NwA U)) (va_Qv (fun _ : Unit => True) (fun _ t => ∃ (oz1 : Nat), ∃ (otr1 : Nat → Int32), ∃ (otn1 : Nat → Int64), ∃ (ork1 : Nat → Int64), (oz1 ≤ 201) ∧ (AllLt otr1 oz1 8) ∧ (∃ m, el.Perm (el[k] :: m) ∧ PoR m oz1 otr1 otn1 ork1 rk) ∧ va_P (dC, dI) clA [(o0, .inr (5, [.ref f0, .int (nI oz1), .ref o1, .ref o2, .ref o3])), (o1, .inl (cI, 201, .inl otr1)), (o2, .inl (cL, 201, .inr (.inl otn1))), (o3, .inl (cL, 201, .inr (.inl ork1)))] t.heap ∧ va_D (va_A [(o0, .inr (5, [.ref f0, .int (nI oz), .ref o1, .ref o2, .ref o3])), (o1, .inl (cI, 201, .inl otr)), (o2, .inl (cL, 201, .inr (.inl otn))), (o3, .inl (cL, 201, .inr (.inl ork)))] sz) [(o0, .inr (5, [.ref f0, .int (nI oz1), .ref o1, .ref o2, .ref o3])), (o1, .inl (cI, 201, .inl otr1)), (o2, .inl (cL, 201, .inr (.inl otn1))), (o3, .inl (cL, 201, .inr (.inl ork1)))]) (va_A [(o0, .inr (5, [.ref f0, .int (nI oz), .ref o1, .ref o2, .ref o3])), (o1, .inl (cI, 201, .inl otr)), (o2, .inl (cL, 201, .inr (.inl otn))), (o3, .inl (cL, 201, .inr (.inl ork)))] sz)) 0 0 (va_A [(o0, .inr (5, [.ref f0, .int (nI oz), .ref o1, .ref o2, .ref o3])), (o1, .inl (cI, 201, .inl otr)), (o2, .inl (cL, 201, .inr (.inl otn))), (o3, .inl (cL, 201, .inr (.inl ork)))] sz) := by
  refine Met.ofW (cc := prog_4_method_5_code) (maxL := 2) (ret := none) (by decide) rfl ?_
  intro p e s m args below meth c s₁ B hml hv
  obtain ⟨rfl, hsz, hP, hK, hD0, hN⟩ := hv
  have hx := B.exec
  have hb := B.bytes
  have hr := B.returns
  have ht : ∀ w ∈ wsA, w.before _ s = true := fun w h => atoms_spec (ws := (Cond.code y_Po_remove prog_4_method_5_code 2 none :: wsA)) B.pre w (List.mem_cons_of_mem _ h)
  have hown : s.vm.findClass "NetUnfolder$Possible" = some m.cls := findClass_of_methodNamed B.named
  have hlocks := B.notSynchronized
  subst hsz
  have hD := hD0.self (sz := s.heap.size)
  generalize hAe : va_A [(o0, .inr (5, [.ref f0, .int (nI oz), .ref o1, .ref o2, .ref o3])), (o1, .inl (cI, 201, .inl otr)), (o2, .inl (cL, 201, .inr (.inl otn))), (o3, .inl (cL, 201, .inr (.inl ork)))] s.heap.size = A at hD ⊢
  have hA : ∀ q : Nat, s.heap.size ≤ q → A q := fun q h => by rw [← hAe]; exact Or.inr h
  have hS : va_S A s.heap s.heap [] := va_S.rf
  have hl := lv_entry ([.ref o0, .int (nI k)]) (n := 2) (Nat.le_of_ble_eq_true rfl)
  rw [lg_entry_eq]
  generalize (lg_sl ([.ref o0, .int (nI k)]) ++ List.replicate (2 - (lg_sl ([.ref o0, .int (nI k)])).length) Slot.unset).toArray = ls at hl ⊢
  replace hl : lv_has ls 2 [(0, .ref o0), (1, .int (nI k))] := hl
  refine W_Q (fun Q hQ => ?_)
  refine lv_aload_n hx hb d_Po_remove_0 rfl (lv_at hl 0 rfl) ?_
  refine lv_dup hx hb d_Po_remove_1 rfl ?_
  refine va_get (D := (dC, dI)) (ci := 5) (v := .int (nI oz)) (C := "NetUnfolder$Possible") (T := T_Po) (N := 5) hx hb ht in_Po hown hK hP 0 rfl rfl 1 (by decide) (ht _ wd_1_165) (fun _ h9 => h9) rfl d_Po_remove_2 ?_
  refine lv_iconst (v := 1) hx hb d_Po_remove_5 (by decide) ?_
  refine lv_isub hx hb d_Po_remove_6 ?_
  refine ci_i (y := nI (oz - 1)) (cv_sub (a := oz) (b := 1) (by omega)) ?_
  refine va_put (D := (dC, dI)) (ci := 5) (v := .int (nI (oz - 1))) (ty := .int) (C := "NetUnfolder$Possible") (T := T_Po) (N := 5) hx hb ht in_Po ty_Po ok_Po nm_Po hown hK hP hD hS 0 rfl rfl 1 (by decide) (ht _ wd_1_165) (fun _ h9 => h9) rfl (by decide +kernel) rfl rfl (Nat.le_of_ble_eq_true rfl) d_Po_remove_7 (fun H1 locs hPn hDn hSn => ?_)
  replace hP : va_P (dC, dI) clA [(o0, .inr (5, [.ref f0, .int (nI (oz - 1)), .ref o1, .ref o2, .ref o3])), (o1, .inl (cI, 201, .inl otr)), (o2, .inl (cL, 201, .inr (.inl otn))), (o3, .inl (cL, 201, .inr (.inl ork)))] H1 := hPn
  replace hD : va_D A [(o0, .inr (5, [.ref f0, .int (nI (oz - 1)), .ref o1, .ref o2, .ref o3])), (o1, .inl (cI, 201, .inl otr)), (o2, .inl (cL, 201, .inr (.inl otn))), (o3, .inl (cL, 201, .inr (.inl ork)))] := hDn
  replace hS := hSn
  clear hPn hDn hSn
  refine lv_aload_n hx hb d_Po_remove_10 rfl (lv_at hl 0 rfl) ?_
  refine va_get (D := (dC, dI)) (ci := 5) (v := .ref o1) (C := "NetUnfolder$Possible") (T := T_Po) (N := 5) hx hb ht in_Po hown hK hP 0 rfl rfl 2 (by decide) (ht _ wd_1_167) (fun _ h9 => h9) rfl d_Po_remove_11 ?_
  refine lv_iload_n hx hb d_Po_remove_14 rfl (lv_at hl 1 rfl) ?_
  refine lv_aload_n hx hb d_Po_remove_15 rfl (lv_at hl 0 rfl) ?_
  refine va_get (D := (dC, dI)) (ci := 5) (v := .ref o1) (C := "NetUnfolder$Possible") (T := T_Po) (N := 5) hx hb ht in_Po hown hK hP 0 rfl rfl 2 (by decide) (ht _ wd_1_167) (fun _ h9 => h9) rfl d_Po_remove_16 ?_
  refine lv_aload_n hx hb d_Po_remove_19 rfl (lv_at hl 0 rfl) ?_
  refine va_get (D := (dC, dI)) (ci := 5) (v := .int (nI (oz - 1))) (C := "NetUnfolder$Possible") (T := T_Po) (N := 5) hx hb ht in_Po hown hK hP 0 rfl rfl 1 (by decide) (ht _ wd_1_165) (fun _ h9 => h9) rfl d_Po_remove_20 ?_
  refine na_iald (k := oz - 1) hx hb hK hP 1 0 rfl rfl (by omega) (by decide) d_Po_remove_23 ?_
  refine na_iast (k := k) hx hb hK hP hD hS 1 0 rfl rfl (by omega) (by decide) d_Po_remove_24 (fun H2 locs hPn hDn hSn => ?_)
  replace hP : va_P (dC, dI) clA [(o0, .inr (5, [.ref f0, .int (nI (oz - 1)), .ref o1, .ref o2, .ref o3])), (o1, .inl (cI, 201, .inl (upd otr k (otr (oz - 1))))), (o2, .inl (cL, 201, .inr (.inl otn))), (o3, .inl (cL, 201, .inr (.inl ork)))] H2 := hPn
  replace hD : va_D A [(o0, .inr (5, [.ref f0, .int (nI (oz - 1)), .ref o1, .ref o2, .ref o3])), (o1, .inl (cI, 201, .inl (upd otr k (otr (oz - 1))))), (o2, .inl (cL, 201, .inr (.inl otn))), (o3, .inl (cL, 201, .inr (.inl ork)))] := hDn
  replace hS := hSn
  clear hPn hDn hSn
  refine lv_aload_n hx hb d_Po_remove_25 rfl (lv_at hl 0 rfl) ?_
  refine va_get (D := (dC, dI)) (ci := 5) (v := .ref o2) (C := "NetUnfolder$Possible") (T := T_Po) (N := 5) hx hb ht in_Po hown hK hP 0 rfl rfl 3 (by decide) (ht _ wd_1_169) (fun _ h9 => h9) rfl d_Po_remove_26 ?_
  refine lv_iload_n hx hb d_Po_remove_29 rfl (lv_at hl 1 rfl) ?_
  refine lv_aload_n hx hb d_Po_remove_30 rfl (lv_at hl 0 rfl) ?_
  refine va_get (D := (dC, dI)) (ci := 5) (v := .ref o2) (C := "NetUnfolder$Possible") (T := T_Po) (N := 5) hx hb ht in_Po hown hK hP 0 rfl rfl 3 (by decide) (ht _ wd_1_169) (fun _ h9 => h9) rfl d_Po_remove_31 ?_
  refine lv_aload_n hx hb d_Po_remove_34 rfl (lv_at hl 0 rfl) ?_
  refine va_get (D := (dC, dI)) (ci := 5) (v := .int (nI (oz - 1))) (C := "NetUnfolder$Possible") (T := T_Po) (N := 5) hx hb ht in_Po hown hK hP 0 rfl rfl 1 (by decide) (ht _ wd_1_165) (fun _ h9 => h9) rfl d_Po_remove_35 ?_
  refine na_lald (k := oz - 1) hx hb hK hP 2 1 rfl rfl (by omega) (by decide) d_Po_remove_38 ?_
  refine na_last (k := k) hx hb hK hP hD hS 2 1 rfl rfl (by omega) (by decide) d_Po_remove_39 (fun H3 locs hPn hDn hSn => ?_)
  replace hP : va_P (dC, dI) clA [(o0, .inr (5, [.ref f0, .int (nI (oz - 1)), .ref o1, .ref o2, .ref o3])), (o1, .inl (cI, 201, .inl (upd otr k (otr (oz - 1))))), (o2, .inl (cL, 201, .inr (.inl (vp_updL otn k (otn (oz - 1)))))), (o3, .inl (cL, 201, .inr (.inl ork)))] H3 := hPn
  replace hD : va_D A [(o0, .inr (5, [.ref f0, .int (nI (oz - 1)), .ref o1, .ref o2, .ref o3])), (o1, .inl (cI, 201, .inl (upd otr k (otr (oz - 1))))), (o2, .inl (cL, 201, .inr (.inl (vp_updL otn k (otn (oz - 1)))))), (o3, .inl (cL, 201, .inr (.inl ork)))] := hDn
  replace hS := hSn
  clear hPn hDn hSn
  refine lv_aload_n hx hb d_Po_remove_40 rfl (lv_at hl 0 rfl) ?_
  refine va_get (D := (dC, dI)) (ci := 5) (v := .ref o3) (C := "NetUnfolder$Possible") (T := T_Po) (N := 5) hx hb ht in_Po hown hK hP 0 rfl rfl 4 (by decide) (ht _ wd_1_171) (fun _ h9 => h9) rfl d_Po_remove_41 ?_
  refine lv_iload_n hx hb d_Po_remove_44 rfl (lv_at hl 1 rfl) ?_
  refine lv_aload_n hx hb d_Po_remove_45 rfl (lv_at hl 0 rfl) ?_
  refine va_get (D := (dC, dI)) (ci := 5) (v := .ref o3) (C := "NetUnfolder$Possible") (T := T_Po) (N := 5) hx hb ht in_Po hown hK hP 0 rfl rfl 4 (by decide) (ht _ wd_1_171) (fun _ h9 => h9) rfl d_Po_remove_46 ?_
  refine lv_aload_n hx hb d_Po_remove_49 rfl (lv_at hl 0 rfl) ?_
  refine va_get (D := (dC, dI)) (ci := 5) (v := .int (nI (oz - 1))) (C := "NetUnfolder$Possible") (T := T_Po) (N := 5) hx hb ht in_Po hown hK hP 0 rfl rfl 1 (by decide) (ht _ wd_1_165) (fun _ h9 => h9) rfl d_Po_remove_50 ?_
  refine na_lald (k := oz - 1) hx hb hK hP 3 1 rfl rfl (by omega) (by decide) d_Po_remove_53 ?_
  refine na_last (k := k) hx hb hK hP hD hS 3 1 rfl rfl (by omega) (by decide) d_Po_remove_54 (fun H4 locs hPn hDn hSn => ?_)
  replace hP : va_P (dC, dI) clA [(o0, .inr (5, [.ref f0, .int (nI (oz - 1)), .ref o1, .ref o2, .ref o3])), (o1, .inl (cI, 201, .inl (upd otr k (otr (oz - 1))))), (o2, .inl (cL, 201, .inr (.inl (vp_updL otn k (otn (oz - 1)))))), (o3, .inl (cL, 201, .inr (.inl (vp_updL ork k (ork (oz - 1))))))] H4 := hPn
  replace hD : va_D A [(o0, .inr (5, [.ref f0, .int (nI (oz - 1)), .ref o1, .ref o2, .ref o3])), (o1, .inl (cI, 201, .inl (upd otr k (otr (oz - 1))))), (o2, .inl (cL, 201, .inr (.inl (vp_updL otn k (otn (oz - 1)))))), (o3, .inl (cL, 201, .inr (.inl (vp_updL ork k (ork (oz - 1))))))] := hDn
  replace hS := hSn
  clear hPn hDn hSn
  have hP9 := hP.sub (ws' := [(o0, .inr (5, [.ref f0, .int (nI (oz - 1)), .ref o1, .ref o2, .ref o3])), (o1, .inl (cI, 201, .inl (upd otr k (otr (oz - 1))))), (o2, .inl (cL, 201, .inr (.inl (vp_updL otn k (otn (oz - 1)))))), (o3, .inl (cL, 201, .inr (.inl (vp_updL ork k (ork (oz - 1))))))]) [0, 1, 2, 3] rfl
  have hD9 := hD.sub (ws' := [(o0, .inr (5, [.ref f0, .int (nI (oz - 1)), .ref o1, .ref o2, .ref o3])), (o1, .inl (cI, 201, .inl (upd otr k (otr (oz - 1))))), (o2, .inl (cL, 201, .inr (.inl (vp_updL otn k (otn (oz - 1)))))), (o3, .inl (cL, 201, .inr (.inl (vp_updL ork k (ork (oz - 1))))))]) [0, 1, 2, 3] (by decide) rfl
  subst hQ
  exact W.vret hx hb hr (fun t9 ht9 hW => ⟨⟨(), rfl, trivial, (oz - 1), (upd otr k (otr (oz - 1))), (vp_updL otn k (otn (oz - 1))), (vp_updL ork k (ork (oz - 1))), (by first | assumption | omega | trivial | exact AllLt.zero | exact AllN.zero | exact AllM.zero | exact Or.inl rfl | exact Or.inr rfl), (AllLt.move hot (by omega) (by omega)), (by subst hozl; exact PosI.remove hPos hlen hk), by rw [ht9]; exact hP9, hD9⟩, hS.F ht9⟩) hS.2.2 d_Po_remove_55

set_option maxHeartbeats 4000000 in
set_option maxRecDepth 100000 in
theorem e_Po_comesBefore (l : Launch) (dC : Nat → ClassId) (dI : Nat → Nat → Nat) (cI cL cZ : ClassId) (sz : Nat) (o0 : Nat) (o1 : Nat) (o2 : Nat) (o3 : Nat) (f0 : Nat) (oz : Nat) (otr : Nat → Int32) (otn : Nat → Int64) (ork : Nat → Int64) (f1 : Nat) (f2 : Nat) (f3 : Nat) (f4 : Nat) (f5 : Nat) (f6 : Nat) (f7 : Nat) (f8 : Nat) (f9 : Nat) (f10 : Nat) (pfc : Nat) (pfe : Nat) (pfu : Int32) (pfw : Int32) (fop : Nat → Int64) (el : List Ent) (rk : Ent → Nat) (pl : Nat → Nat) (ps : Nat → List Nat) (nc : Nat) (i : Nat) (j : Nat) (htb : ∀ z ∈ el, z.1 < 8) (hlen : el.length ≤ 200) (hozl : oz = el.length) (hPos : PosI el otr otn ork rk) (hEnt : ∀ z ∈ el, EntI pl ps nc z) (h60 : nc ≤ 60) (hOp : ∀ p, p < 8 → B64 (fop p) (fun c => c < nc ∧ pl c = p)) (hrk : ∀ z ∈ el, rk z < 2 ^ 60) (hi : i < el.length) (hj : j < el.length) : Met l y_Po_comesBefore (Cond.code y_Po_comesBefore prog_4_method_7_code 8 (some .boolean) :: wsA) { frames := 0, cells := 0, slots := 0, locals := 0 } (va_Pc [.ref o0, .int (nI i), .int (nI j)] (fun U => U.heap.size = sz ∧ va_P (dC, dI) clA [(o0, .inr (5, [.ref f0, .int (nI oz), .ref o1, .ref o2, .ref o3])), (o1, .inl (cI, 201, .inl otr)), (o2, .inl (cL, 201, .inr (.inl otn))), (o3, .inl (cL, 201, .inr (.inl ork))), (f0, .inr (2, [.int (nI pfc), .ref f1, .ref f2, .ref f3, .ref f4, .ref f5, .int (nI pfe), .ref f6, .ref f7, .ref f8, .ref f9, .ref f10, .int pfu, .int pfw])), (f5, .inl (cL, 8, .inr (.inl fop)))] U.heap ∧ va_K (dC, dI) clA [(cI, .int), (cL, .long), (cZ, .boolean)] U ∧ va_D (fun _ => True) [(o0, .inr (5, [.ref f0, .int (nI oz), .ref o1, .ref o2, .ref o3])), (o1, .inl (cI, 201, .inl otr)), (o2, .inl (cL, 201, .inr (.inl otn))), (o3, .inl (cL, 201, .inr (.inl ork))), (f0, .inr (2, [.int (nI pfc), .ref f1, .ref f2, .ref f3, .ref f4, .ref f5, .int (nI pfe), .ref f6, .ref f7, .ref f8, .ref f9, .ref f10, .int pfu, .int pfw])), (f5, .inl (cL, 8, .inr (.inl fop)))] ∧ NwA U)) (va_Qi (fun r (_ : Unit) => ((r = 1 ∧ befR rk (el[i]) (el[j])) ∨ (r = 0 ∧ ¬ befR rk (el[i]) (el[j])))) (fun _ t => va_P (dC, dI) clA [(o0, .inr (5, [.ref f0, .int (nI oz), .ref o1, .ref o2, .ref o3])), (o1, .inl (cI, 201, .inl otr)), (o2, .inl (cL, 201, .inr (.inl otn))), (o3, .inl (cL, 201, .inr (.inl ork))), (f0, .inr (2, [.int (nI pfc), .ref f1, .ref f2, .ref f3, .ref f4, .ref f5, .int (nI pfe), .ref f6, .ref f7, .ref f8, .ref f9, .ref f10, .int pfu, .int pfw])), (f5, .inl (cL, 8, .inr (.inl fop)))] t.heap ∧ va_D (va_A [(o0, .inr (5, [.ref f0, .int (nI oz), .ref o1, .ref o2, .ref o3])), (o1, .inl (cI, 201, .inl otr)), (o2, .inl (cL, 201, .inr (.inl otn))), (o3, .inl (cL, 201, .inr (.inl ork))), (f0, .inr (2, [.int (nI pfc), .ref f1, .ref f2, .ref f3, .ref f4, .ref f5, .int (nI pfe), .ref f6, .ref f7, .ref f8, .ref f9, .ref f10, .int pfu, .int pfw])), (f5, .inl (cL, 8, .inr (.inl fop)))] sz) [(o0, .inr (5, [.ref f0, .int (nI oz), .ref o1, .ref o2, .ref o3])), (o1, .inl (cI, 201, .inl otr)), (o2, .inl (cL, 201, .inr (.inl otn))), (o3, .inl (cL, 201, .inr (.inl ork))), (f0, .inr (2, [.int (nI pfc), .ref f1, .ref f2, .ref f3, .ref f4, .ref f5, .int (nI pfe), .ref f6, .ref f7, .ref f8, .ref f9, .ref f10, .int pfu, .int pfw])), (f5, .inl (cL, 8, .inr (.inl fop)))]) (va_A [(o0, .inr (5, [.ref f0, .int (nI oz), .ref o1, .ref o2, .ref o3])), (o1, .inl (cI, 201, .inl otr)), (o2, .inl (cL, 201, .inr (.inl otn))), (o3, .inl (cL, 201, .inr (.inl ork))), (f0, .inr (2, [.int (nI pfc), .ref f1, .ref f2, .ref f3, .ref f4, .ref f5, .int (nI pfe), .ref f6, .ref f7, .ref f8, .ref f9, .ref f10, .int pfu, .int pfw])), (f5, .inl (cL, 8, .inr (.inl fop)))] sz)) 0 0 (va_A [(o0, .inr (5, [.ref f0, .int (nI oz), .ref o1, .ref o2, .ref o3])), (o1, .inl (cI, 201, .inl otr)), (o2, .inl (cL, 201, .inr (.inl otn))), (o3, .inl (cL, 201, .inr (.inl ork))), (f0, .inr (2, [.int (nI pfc), .ref f1, .ref f2, .ref f3, .ref f4, .ref f5, .int (nI pfe), .ref f6, .ref f7, .ref f8, .ref f9, .ref f10, .int pfu, .int pfw])), (f5, .inl (cL, 8, .inr (.inl fop)))] sz) := by
  refine Met.ofW (cc := prog_4_method_7_code) (maxL := 8) (ret := (some .boolean)) (by decide) rfl ?_
  intro p e s m args below meth c s₁ B hml hv
  obtain ⟨rfl, hsz, hP, hK, hD0, hN⟩ := hv
  have hx := B.exec
  have hb := B.bytes
  have hr := B.returns
  have ht : ∀ w ∈ wsA, w.before _ s = true := fun w h => atoms_spec (ws := (Cond.code y_Po_comesBefore prog_4_method_7_code 8 (some .boolean) :: wsA)) B.pre w (List.mem_cons_of_mem _ h)
  have hown : s.vm.findClass "NetUnfolder$Possible" = some m.cls := findClass_of_methodNamed B.named
  have hlocks := B.notSynchronized
  subst hsz
  have hD := hD0.self (sz := s.heap.size)
  generalize hAe : va_A [(o0, .inr (5, [.ref f0, .int (nI oz), .ref o1, .ref o2, .ref o3])), (o1, .inl (cI, 201, .inl otr)), (o2, .inl (cL, 201, .inr (.inl otn))), (o3, .inl (cL, 201, .inr (.inl ork))), (f0, .inr (2, [.int (nI pfc), .ref f1, .ref f2, .ref f3, .ref f4, .ref f5, .int (nI pfe), .ref f6, .ref f7, .ref f8, .ref f9, .ref f10, .int pfu, .int pfw])), (f5, .inl (cL, 8, .inr (.inl fop)))] s.heap.size = A at hD ⊢
  have hA : ∀ q : Nat, s.heap.size ≤ q → A q := fun q h => by rw [← hAe]; exact Or.inr h
  have hS : va_S A s.heap s.heap [] := va_S.rf
  have hl := lv_entry ([.ref o0, .int (nI i), .int (nI j)]) (n := 8) (Nat.le_of_ble_eq_true rfl)
  rw [lg_entry_eq]
  generalize (lg_sl ([.ref o0, .int (nI i), .int (nI j)]) ++ List.replicate (8 - (lg_sl ([.ref o0, .int (nI i), .int (nI j)])).length) Slot.unset).toArray = ls at hl ⊢
  replace hl : lv_has ls 8 [(0, .ref o0), (1, .int (nI i)), (2, .int (nI j))] := hl
  refine W_Q (fun Q hQ => ?_)
  obtain ⟨hit, hin, hir⟩ := hPos i hi
  obtain ⟨hjt, hjn, hjr⟩ := hPos j hj
  have hri := hrk _ (List.getElem_mem hi)
  have hrj := hrk _ (List.getElem_mem hj)
  have hEi := hEnt _ (List.getElem_mem hi)
  have hEj := hEnt _ (List.getElem_mem hj)
  have hti8 := htb _ (List.getElem_mem hi)
  have htj8 := htb _ (List.getElem_mem hj)
  refine lv_aload_n hx hb d_Po_comesBefore_0 rfl (lv_at hl 0 rfl) ?_
  refine va_get (D := (dC, dI)) (ci := 5) (v := .ref o3) (C := "NetUnfolder$Possible") (T := T_Po) (N := 5) hx hb ht in_Po hown hK hP 0 rfl rfl 4 (by decide) (ht _ wd_1_171) (fun _ h9 => h9) rfl d_Po_comesBefore_1 ?_
  refine lv_iload_n hx hb d_Po_comesBefore_4 rfl (lv_at hl 1 rfl) ?_
  refine na_lald (k := i) hx hb hK hP 3 1 rfl rfl (by omega) (by decide) d_Po_comesBefore_5 ?_
  refine lv_aload_n hx hb d_Po_comesBefore_6 rfl (lv_at hl 0 rfl) ?_
  refine va_get (D := (dC, dI)) (ci := 5) (v := .ref o3) (C := "NetUnfolder$Possible") (T := T_Po) (N := 5) hx hb ht in_Po hown hK hP 0 rfl rfl 4 (by decide) (ht _ wd_1_171) (fun _ h9 => h9) rfl d_Po_comesBefore_7 ?_
  refine lv_iload_n hx hb d_Po_comesBefore_10 rfl (lv_at hl 2 rfl) ?_
  refine na_lald (k := j) hx hb hK hP 3 1 rfl rfl (by omega) (by decide) d_Po_comesBefore_11 ?_
  refine W.lcmp hx hb d_Po_comesBefore_12 ?_
  refine lv_if_eq (tgt := 38) hx hb d_Po_comesBefore_13 (by decide) (fun hb1 => ?_) (fun hb1 => ?_)
  · skip
    have hre : rk el[i] = rk el[j] := (lN_eq63 (by omega) (by omega)).mp (by have e9 := (lg_cmp_eq _ _).mp hb1; rw [hir, hjr] at e9; exact e9)
    refine lv_aload_n hx hb d_Po_comesBefore_38 rfl (lv_at hl 0 rfl) ?_
    refine va_get (D := (dC, dI)) (ci := 5) (v := .ref o1) (C := "NetUnfolder$Possible") (T := T_Po) (N := 5) hx hb ht in_Po hown hK hP 0 rfl rfl 2 (by decide) (ht _ wd_1_167) (fun _ h9 => h9) rfl d_Po_comesBefore_39 ?_
    refine lv_iload_n hx hb d_Po_comesBefore_42 rfl (lv_at hl 1 rfl) ?_
    refine na_iald (k := i) hx hb hK hP 1 0 rfl rfl (by omega) (by decide) d_Po_comesBefore_43 ?_
    refine lv_aload_n hx hb d_Po_comesBefore_44 rfl (lv_at hl 0 rfl) ?_
    refine va_get (D := (dC, dI)) (ci := 5) (v := .ref o1) (C := "NetUnfolder$Possible") (T := T_Po) (N := 5) hx hb ht in_Po hown hK hP 0 rfl rfl 2 (by decide) (ht _ wd_1_167) (fun _ h9 => h9) rfl d_Po_comesBefore_45 ?_
    refine lv_iload_n hx hb d_Po_comesBefore_48 rfl (lv_at hl 2 rfl) ?_
    refine na_iald (k := j) hx hb hK hP 1 0 rfl rfl (by omega) (by decide) d_Po_comesBefore_49 ?_
    refine lv_icmp_eq (tgt := 74) hx hb d_Po_comesBefore_50 (by decide) (fun hb2 => ?_) (fun hb2 => ?_)
    · skip
      have hte : (el[i]).1 = (el[j]).1 := by rw [hit, hjt] at hb2; exact cv_eq (by omega) (by omega) hb2
      refine lv_iconst (v := 0) hx hb d_Po_comesBefore_74 (by decide) ?_
      refine lv_istore_n (lv' := [(3, .int 0), (0, .ref o0), (1, .int (nI i)), (2, .int (nI j))]) hx hb d_Po_comesBefore_75 rfl hl (by decide) rfl (fun ls hln => ?_)
      replace hl : lv_has ls 8 [(3, .int 0), (0, .ref o0), (1, .int (nI i)), (2, .int (nI j))] := hln
      clear hln
      have hloop3 : ∀ (n76 : Nat) (q9 : Nat) (hq9 : q9 ≤ 8) (hq : ∀ q, q < q9 → ∀ z, (z ∈ (el[i]).2 ∧ pl z = q) ↔ (z ∈ (el[j]).2 ∧ pl z = q)) (H : Heap) (locs : List Loc) (ls : Array Slot) (hl : lv_has ls 8 [(0, .ref o0), (1, .int (nI i)), (2, .int (nI j)), (3, .int (nI q9))]) (hP : va_P (dC, dI) clA [(o0, .inr (5, [.ref f0, .int (nI oz), .ref o1, .ref o2, .ref o3])), (o1, .inl (cI, 201, .inl otr)), (o2, .inl (cL, 201, .inr (.inl otn))), (o3, .inl (cL, 201, .inr (.inl ork))), (f0, .inr (2, [.int (nI pfc), .ref f1, .ref f2, .ref f3, .ref f4, .ref f5, .int (nI pfe), .ref f6, .ref f7, .ref f8, .ref f9, .ref f10, .int pfu, .int pfw])), (f5, .inl (cL, 8, .inr (.inl fop)))] H) (hD : va_D A [(o0, .inr (5, [.ref f0, .int (nI oz), .ref o1, .ref o2, .ref o3])), (o1, .inl (cI, 201, .inl otr)), (o2, .inl (cL, 201, .inr (.inl otn))), (o3, .inl (cL, 201, .inr (.inl ork))), (f0, .inr (2, [.int (nI pfc), .ref f1, .ref f2, .ref f3, .ref f4, .ref f5, .int (nI pfe), .ref f6, .ref f7, .ref f8, .ref f9, .ref f10, .int pfu, .int pfw])), (f5, .inl (cL, 8, .inr (.inl fop)))]) (hS : va_S A s.heap H locs) (hm76 : 8 - q9 < n76), W p l e (headSpec (Cond.code y_Po_comesBefore prog_4_method_7_code 8 (some .boolean) :: wsA) { frames := 0, cells := 0, slots := 0, locals := 0 }).room s m ([.ref o0, .int (nI i), .int (nI j)] : List Value).toArray below meth c H locs 0 0 Q (F0 m 76 ls []) := by
        clear hl hP hD hS
        intro n76
        induction n76 with
        | zero => intro q9 hq9 hq H locs ls hl hP hD hS hm; exact absurd hm (Nat.not_lt_zero _)
        | succ n76 hloop3_ih =>
          intro q9 hq9 hq H locs ls hl hP hD hS hm76
          refine lv_iload_n hx hb d_Po_comesBefore_76 rfl (lv_at hl 3 rfl) ?_
          refine lv_bipush (v := 8) hx hb d_Po_comesBefore_77 (by decide) ?_
          refine lv_icmp_ge (tgt := 146) hx hb d_Po_comesBefore_79 (by decide) (fun hb4 => ?_) (fun hb4 => ?_)
          · skip
            replace hb4 := cv_le (a := 8) (b := q9) (by omega) (by omega) hb4
            refine lv_iconst (v := 0) hx hb d_Po_comesBefore_146 (by decide) ?_
            have hP9 := hP.sub (ws' := [(o0, .inr (5, [.ref f0, .int (nI oz), .ref o1, .ref o2, .ref o3])), (o1, .inl (cI, 201, .inl otr)), (o2, .inl (cL, 201, .inr (.inl otn))), (o3, .inl (cL, 201, .inr (.inl ork))), (f0, .inr (2, [.int (nI pfc), .ref f1, .ref f2, .ref f3, .ref f4, .ref f5, .int (nI pfe), .ref f6, .ref f7, .ref f8, .ref f9, .ref f10, .int pfu, .int pfw])), (f5, .inl (cL, 8, .inr (.inl fop)))]) [0, 1, 2, 3, 4, 5] rfl
            have hD9 := hD.sub (ws' := [(o0, .inr (5, [.ref f0, .int (nI oz), .ref o1, .ref o2, .ref o3])), (o1, .inl (cI, 201, .inl otr)), (o2, .inl (cL, 201, .inr (.inl otn))), (o3, .inl (cL, 201, .inr (.inl ork))), (f0, .inr (2, [.int (nI pfc), .ref f1, .ref f2, .ref f3, .ref f4, .ref f5, .int (nI pfe), .ref f6, .ref f7, .ref f8, .ref f9, .ref f10, .int pfu, .int pfw])), (f5, .inl (cL, 8, .inr (.inl fop)))]) [0, 1, 2, 3, 4, 5] (by decide) rfl
            subst hQ
            exact W.zret (v := 0) hx hb hr rfl (fun t9 ht9 hW => ⟨⟨0, (), rfl, (Or.inr ⟨rfl, cb_e hre hte hEi hEj (fun q hq8 => hq q (by omega))⟩), by rw [ht9]; exact hP9, hD9⟩, hS.F ht9⟩) hS.2.2 d_Po_comesBefore_147
          · skip
            replace hb4 := cv_nle (a := 8) (b := q9) (by omega) (by omega) hb4
            refine lv_aload_n hx hb d_Po_comesBefore_82 rfl (lv_at hl 0 rfl) ?_
            refine va_get (D := (dC, dI)) (ci := 5) (v := .ref o2) (C := "NetUnfolder$Possible") (T := T_Po) (N := 5) hx hb ht in_Po hown hK hP 0 rfl rfl 3 (by decide) (ht _ wd_1_169) (fun _ h9 => h9) rfl d_Po_comesBefore_83 ?_
            refine lv_iload_n hx hb d_Po_comesBefore_86 rfl (lv_at hl 1 rfl) ?_
            refine na_lald (k := i) hx hb hK hP 2 1 rfl rfl (by omega) (by decide) d_Po_comesBefore_87 ?_
            refine lv_aload_n hx hb d_Po_comesBefore_88 rfl (lv_at hl 0 rfl) ?_
            refine va_get (D := (dC, dI)) (ci := 5) (v := .ref f0) (C := "NetUnfolder$Possible") (T := T_Po) (N := 5) hx hb ht in_Po hown hK hP 0 rfl rfl 0 (by decide) (ht _ wd_1_164) (fun _ h9 => h9) rfl d_Po_comesBefore_89 ?_
            refine va_get (D := (dC, dI)) (ci := 2) (v := .ref f5) (C := "NetUnfolder$Prefix") (T := T_Pf) (N := 14) hx hb ht in_Pf hown hK hP 4 rfl rfl 5 (by decide) (ht _ wd_1_80) (fun _ h9 => h9) rfl d_Po_comesBefore_92 ?_
            refine lv_iload_n hx hb d_Po_comesBefore_95 rfl (lv_at hl 3 rfl) ?_
            refine na_lald (k := q9) hx hb hK hP 5 1 rfl rfl (by omega) (by decide) d_Po_comesBefore_96 ?_
            refine lv_land hx hb d_Po_comesBefore_97 ?_
            refine lv_lstore (lv' := [(4, .long ((otn i) &&& (fop q9))), (0, .ref o0), (1, .int (nI i)), (2, .int (nI j)), (3, .int (nI q9))]) hx hb d_Po_comesBefore_98 hl (by decide) rfl (fun ls hln => ?_)
            replace hl : lv_has ls 8 [(4, .long ((otn i) &&& (fop q9))), (0, .ref o0), (1, .int (nI i)), (2, .int (nI j)), (3, .int (nI q9))] := hln
            clear hln
            refine lv_aload_n hx hb d_Po_comesBefore_100 rfl (lv_at hl 1 rfl) ?_
            refine va_get (D := (dC, dI)) (ci := 5) (v := .ref o2) (C := "NetUnfolder$Possible") (T := T_Po) (N := 5) hx hb ht in_Po hown hK hP 0 rfl rfl 3 (by decide) (ht _ wd_1_169) (fun _ h9 => h9) rfl d_Po_comesBefore_101 ?_
            refine lv_iload_n hx hb d_Po_comesBefore_104 rfl (lv_at hl 3 rfl) ?_
            refine na_lald (k := j) hx hb hK hP 2 1 rfl rfl (by omega) (by decide) d_Po_comesBefore_105 ?_
            refine lv_aload_n hx hb d_Po_comesBefore_106 rfl (lv_at hl 1 rfl) ?_
            refine va_get (D := (dC, dI)) (ci := 5) (v := .ref f0) (C := "NetUnfolder$Possible") (T := T_Po) (N := 5) hx hb ht in_Po hown hK hP 0 rfl rfl 0 (by decide) (ht _ wd_1_164) (fun _ h9 => h9) rfl d_Po_comesBefore_107 ?_
            refine va_get (D := (dC, dI)) (ci := 2) (v := .ref f5) (C := "NetUnfolder$Prefix") (T := T_Pf) (N := 14) hx hb ht in_Pf hown hK hP 4 rfl rfl 5 (by decide) (ht _ wd_1_80) (fun _ h9 => h9) rfl d_Po_comesBefore_110 ?_
            refine lv_iload_n hx hb d_Po_comesBefore_113 rfl (lv_at hl 4 rfl) ?_
            refine na_lald (k := q9) hx hb hK hP 5 1 rfl rfl (by omega) (by decide) d_Po_comesBefore_114 ?_
            refine lv_land hx hb d_Po_comesBefore_115 ?_
            refine lv_lstore (lv' := [(6, .long ((otn j) &&& (fop q9))), (4, .long ((otn i) &&& (fop q9))), (0, .ref o0), (1, .int (nI i)), (2, .int (nI j)), (3, .int (nI q9))]) hx hb d_Po_comesBefore_116 hl (by decide) rfl (fun ls hln => ?_)
            replace hl : lv_has ls 8 [(6, .long ((otn j) &&& (fop q9))), (4, .long ((otn i) &&& (fop q9))), (0, .ref o0), (1, .int (nI i)), (2, .int (nI j)), (3, .int (nI q9))] := hln
            clear hln
            refine lv_lload hx hb d_Po_comesBefore_118 (lv_at hl 1 rfl) ?_
            refine lv_lload hx hb d_Po_comesBefore_120 (lv_at hl 0 rfl) ?_
            refine W.lcmp hx hb d_Po_comesBefore_122 ?_
            refine lv_if_eq (tgt := 140) hx hb d_Po_comesBefore_123 (by decide) (fun hb5 => ?_) (fun hb5 => ?_)
            · skip
              refine lv_iinc (k := 5) (v := nI (q9 + 1)) (lv' := [(3, .int (nI (q9 + 1))), (6, .long ((otn j) &&& (fop q9))), (4, .long ((otn i) &&& (fop q9))), (0, .ref o0), (1, .int (nI i)), (2, .int (nI j))]) hx hb d_Po_comesBefore_140 hl rfl (nI_1 _) (by decide) rfl (fun ls hln => ?_)
              replace hl : lv_has ls 8 [(3, .int (nI (q9 + 1))), (6, .long ((otn j) &&& (fop q9))), (4, .long ((otn i) &&& (fop q9))), (0, .ref o0), (1, .int (nI i)), (2, .int (nI j))] := hln
              clear hln
              refine lv_goto (tgt := 76) hx hb d_Po_comesBefore_143 (by decide) ?_
              exact hloop3_ih (q9 + 1) (by first | assumption | omega | trivial | exact AllLt.zero | exact AllN.zero | exact AllM.zero | exact Or.inl rfl | exact Or.inr rfl) (lt_s hq (cb_same hEi hEj h60 hin hjn (hOp q9 (by omega)) ((lg_cmp_eq _ _).mp hb5))) _ _ ls (lv_sub hl [3, 4, 5, 0] rfl) (hP.sub [0, 1, 2, 3, 4, 5] rfl) (hD.sub [0, 1, 2, 3, 4, 5] (by decide) rfl) hS (by omega)
            · skip
              have hdf := cb_diff hEi hEj hte h60 hin hjn (hOp q9 (by omega)) (fun e9 => hb5 ((lg_cmp_eq _ _).mpr e9))
              refine lv_lload hx hb d_Po_comesBefore_126 (lv_at hl 1 rfl) ?_
              refine lv_lload hx hb d_Po_comesBefore_128 (lv_at hl 0 rfl) ?_
              refine W.lcmp hx hb d_Po_comesBefore_130 ?_
              refine lv_if_ge (tgt := 138) hx hb d_Po_comesBefore_131 (by decide) (fun hb6 => ?_) (fun hb6 => ?_)
              · skip
                have hlt := Int64.not_lt.mpr ((lg_cmp_ge _ _).mp hb6)
                refine lv_iconst (v := 0) hx hb d_Po_comesBefore_138 (by decide) ?_
                have hP9 := hP.sub (ws' := [(o0, .inr (5, [.ref f0, .int (nI oz), .ref o1, .ref o2, .ref o3])), (o1, .inl (cI, 201, .inl otr)), (o2, .inl (cL, 201, .inr (.inl otn))), (o3, .inl (cL, 201, .inr (.inl ork))), (f0, .inr (2, [.int (nI pfc), .ref f1, .ref f2, .ref f3, .ref f4, .ref f5, .int (nI pfe), .ref f6, .ref f7, .ref f8, .ref f9, .ref f10, .int pfu, .int pfw])), (f5, .inl (cL, 8, .inr (.inl fop)))]) [0, 1, 2, 3, 4, 5] rfl
                have hD9 := hD.sub (ws' := [(o0, .inr (5, [.ref f0, .int (nI oz), .ref o1, .ref o2, .ref o3])), (o1, .inl (cI, 201, .inl otr)), (o2, .inl (cL, 201, .inr (.inl otn))), (o3, .inl (cL, 201, .inr (.inl ork))), (f0, .inr (2, [.int (nI pfc), .ref f1, .ref f2, .ref f3, .ref f4, .ref f5, .int (nI pfe), .ref f6, .ref f7, .ref f8, .ref f9, .ref f10, .int pfu, .int pfw])), (f5, .inl (cL, 8, .inr (.inl fop)))]) [0, 1, 2, 3, 4, 5] (by decide) rfl
                subst hQ
                exact W.zret (v := 0) hx hb hr rfl (fun t9 ht9 hW => ⟨⟨0, (), rfl, (Or.inr ⟨rfl, cb_n hre hte hEi hEj hq hdf hlt⟩), by rw [ht9]; exact hP9, hD9⟩, hS.F ht9⟩) hS.2.2 d_Po_comesBefore_139
              · skip
                have hlt := Int64.not_le.mp (fun z => hb6 ((lg_cmp_ge _ _).mpr z))
                refine lv_iconst (v := 1) hx hb d_Po_comesBefore_134 (by decide) ?_
                refine lv_goto (tgt := 139) hx hb d_Po_comesBefore_135 (by decide) ?_
                have hP9 := hP.sub (ws' := [(o0, .inr (5, [.ref f0, .int (nI oz), .ref o1, .ref o2, .ref o3])), (o1, .inl (cI, 201, .inl otr)), (o2, .inl (cL, 201, .inr (.inl otn))), (o3, .inl (cL, 201, .inr (.inl ork))), (f0, .inr (2, [.int (nI pfc), .ref f1, .ref f2, .ref f3, .ref f4, .ref f5, .int (nI pfe), .ref f6, .ref f7, .ref f8, .ref f9, .ref f10, .int pfu, .int pfw])), (f5, .inl (cL, 8, .inr (.inl fop)))]) [0, 1, 2, 3, 4, 5] rfl
                have hD9 := hD.sub (ws' := [(o0, .inr (5, [.ref f0, .int (nI oz), .ref o1, .ref o2, .ref o3])), (o1, .inl (cI, 201, .inl otr)), (o2, .inl (cL, 201, .inr (.inl otn))), (o3, .inl (cL, 201, .inr (.inl ork))), (f0, .inr (2, [.int (nI pfc), .ref f1, .ref f2, .ref f3, .ref f4, .ref f5, .int (nI pfe), .ref f6, .ref f7, .ref f8, .ref f9, .ref f10, .int pfu, .int pfw])), (f5, .inl (cL, 8, .inr (.inl fop)))]) [0, 1, 2, 3, 4, 5] (by decide) rfl
                subst hQ
                exact W.zret (v := 1) hx hb hr rfl (fun t9 ht9 hW => ⟨⟨1, (), rfl, (Or.inl ⟨rfl, Or.inr ⟨hre, Or.inr ⟨hte, cb_y hEi hEj hte hq hdf hlt⟩⟩⟩), by rw [ht9]; exact hP9, hD9⟩, hS.F ht9⟩) hS.2.2 d_Po_comesBefore_139
      exact hloop3 ((8 - 0) + 1) 0 (by first | assumption | omega | trivial | exact AllLt.zero | exact AllN.zero | exact AllM.zero | exact Or.inl rfl | exact Or.inr rfl) (fun q hq => absurd hq (Nat.not_lt_zero q)) _ _ ls (lv_sub hl [1, 2, 3, 0] rfl) hP hD hS (Nat.lt_succ_self _)
    · skip
      have htn : ¬ (el[i]).1 = (el[j]).1 := fun e9 => hb2 (by rw [hit, hjt, e9])
      refine lv_aload_n hx hb d_Po_comesBefore_53 rfl (lv_at hl 0 rfl) ?_
      refine va_get (D := (dC, dI)) (ci := 5) (v := .ref o1) (C := "NetUnfolder$Possible") (T := T_Po) (N := 5) hx hb ht in_Po hown hK hP 0 rfl rfl 2 (by decide) (ht _ wd_1_167) (fun _ h9 => h9) rfl d_Po_comesBefore_54 ?_
      refine lv_iload_n hx hb d_Po_comesBefore_57 rfl (lv_at hl 1 rfl) ?_
      refine na_iald (k := i) hx hb hK hP 1 0 rfl rfl (by omega) (by decide) d_Po_comesBefore_58 ?_
      refine lv_aload_n hx hb d_Po_comesBefore_59 rfl (lv_at hl 0 rfl) ?_
      refine va_get (D := (dC, dI)) (ci := 5) (v := .ref o1) (C := "NetUnfolder$Possible") (T := T_Po) (N := 5) hx hb ht in_Po hown hK hP 0 rfl rfl 2 (by decide) (ht _ wd_1_167) (fun _ h9 => h9) rfl d_Po_comesBefore_60 ?_
      refine lv_iload_n hx hb d_Po_comesBefore_63 rfl (lv_at hl 2 rfl) ?_
      refine na_iald (k := j) hx hb hK hP 1 0 rfl rfl (by omega) (by decide) d_Po_comesBefore_64 ?_
      refine lv_icmp_ge (tgt := 72) hx hb d_Po_comesBefore_65 (by decide) (fun hb7 => ?_) (fun hb7 => ?_)
      · skip
        have htl : (el[j]).1 ≤ (el[i]).1 := by rw [hit, hjt] at hb7; exact cv_le (by omega) (by omega) hb7
        refine lv_iconst (v := 0) hx hb d_Po_comesBefore_72 (by decide) ?_
        have hP9 := hP.sub (ws' := [(o0, .inr (5, [.ref f0, .int (nI oz), .ref o1, .ref o2, .ref o3])), (o1, .inl (cI, 201, .inl otr)), (o2, .inl (cL, 201, .inr (.inl otn))), (o3, .inl (cL, 201, .inr (.inl ork))), (f0, .inr (2, [.int (nI pfc), .ref f1, .ref f2, .ref f3, .ref f4, .ref f5, .int (nI pfe), .ref f6, .ref f7, .ref f8, .ref f9, .ref f10, .int pfu, .int pfw])), (f5, .inl (cL, 8, .inr (.inl fop)))]) [0, 1, 2, 3, 4, 5] rfl
        have hD9 := hD.sub (ws' := [(o0, .inr (5, [.ref f0, .int (nI oz), .ref o1, .ref o2, .ref o3])), (o1, .inl (cI, 201, .inl otr)), (o2, .inl (cL, 201, .inr (.inl otn))), (o3, .inl (cL, 201, .inr (.inl ork))), (f0, .inr (2, [.int (nI pfc), .ref f1, .ref f2, .ref f3, .ref f4, .ref f5, .int (nI pfe), .ref f6, .ref f7, .ref f8, .ref f9, .ref f10, .int pfu, .int pfw])), (f5, .inl (cL, 8, .inr (.inl fop)))]) [0, 1, 2, 3, 4, 5] (by decide) rfl
        subst hQ
        exact W.zret (v := 0) hx hb hr rfl (fun t9 ht9 hW => ⟨⟨0, (), rfl, (Or.inr ⟨rfl, cb_t0 hre htn htl⟩), by rw [ht9]; exact hP9, hD9⟩, hS.F ht9⟩) hS.2.2 d_Po_comesBefore_73
      · skip
        have htl : (el[i]).1 < (el[j]).1 := by rw [hit, hjt] at hb7; exact cv_nle (by omega) (by omega) hb7
        refine lv_iconst (v := 1) hx hb d_Po_comesBefore_68 (by decide) ?_
        refine lv_goto (tgt := 73) hx hb d_Po_comesBefore_69 (by decide) ?_
        have hP9 := hP.sub (ws' := [(o0, .inr (5, [.ref f0, .int (nI oz), .ref o1, .ref o2, .ref o3])), (o1, .inl (cI, 201, .inl otr)), (o2, .inl (cL, 201, .inr (.inl otn))), (o3, .inl (cL, 201, .inr (.inl ork))), (f0, .inr (2, [.int (nI pfc), .ref f1, .ref f2, .ref f3, .ref f4, .ref f5, .int (nI pfe), .ref f6, .ref f7, .ref f8, .ref f9, .ref f10, .int pfu, .int pfw])), (f5, .inl (cL, 8, .inr (.inl fop)))]) [0, 1, 2, 3, 4, 5] rfl
        have hD9 := hD.sub (ws' := [(o0, .inr (5, [.ref f0, .int (nI oz), .ref o1, .ref o2, .ref o3])), (o1, .inl (cI, 201, .inl otr)), (o2, .inl (cL, 201, .inr (.inl otn))), (o3, .inl (cL, 201, .inr (.inl ork))), (f0, .inr (2, [.int (nI pfc), .ref f1, .ref f2, .ref f3, .ref f4, .ref f5, .int (nI pfe), .ref f6, .ref f7, .ref f8, .ref f9, .ref f10, .int pfu, .int pfw])), (f5, .inl (cL, 8, .inr (.inl fop)))]) [0, 1, 2, 3, 4, 5] (by decide) rfl
        subst hQ
        exact W.zret (v := 1) hx hb hr rfl (fun t9 ht9 hW => ⟨⟨1, (), rfl, (Or.inl ⟨rfl, Or.inr ⟨hre, Or.inl htl⟩⟩), by rw [ht9]; exact hP9, hD9⟩, hS.F ht9⟩) hS.2.2 d_Po_comesBefore_73
  · skip
    have hrn : ¬ rk el[i] = rk el[j] := fun e9 => hb1 ((lg_cmp_eq _ _).mpr (by rw [hir, hjr, e9]))
    refine lv_aload_n hx hb d_Po_comesBefore_16 rfl (lv_at hl 0 rfl) ?_
    refine va_get (D := (dC, dI)) (ci := 5) (v := .ref o3) (C := "NetUnfolder$Possible") (T := T_Po) (N := 5) hx hb ht in_Po hown hK hP 0 rfl rfl 4 (by decide) (ht _ wd_1_171) (fun _ h9 => h9) rfl d_Po_comesBefore_17 ?_
    refine lv_iload_n hx hb d_Po_comesBefore_20 rfl (lv_at hl 1 rfl) ?_
    refine na_lald (k := i) hx hb hK hP 3 1 rfl rfl (by omega) (by decide) d_Po_comesBefore_21 ?_
    refine lv_aload_n hx hb d_Po_comesBefore_22 rfl (lv_at hl 0 rfl) ?_
    refine va_get (D := (dC, dI)) (ci := 5) (v := .ref o3) (C := "NetUnfolder$Possible") (T := T_Po) (N := 5) hx hb ht in_Po hown hK hP 0 rfl rfl 4 (by decide) (ht _ wd_1_171) (fun _ h9 => h9) rfl d_Po_comesBefore_23 ?_
    refine lv_iload_n hx hb d_Po_comesBefore_26 rfl (lv_at hl 2 rfl) ?_
    refine na_lald (k := j) hx hb hK hP 3 1 rfl rfl (by omega) (by decide) d_Po_comesBefore_27 ?_
    refine W.lcmp hx hb d_Po_comesBefore_28 ?_
    refine lv_if_ge (tgt := 36) hx hb d_Po_comesBefore_29 (by decide) (fun hb8 => ?_) (fun hb8 => ?_)
    · skip
      have hrl : rk el[j] ≤ rk el[i] := (lN_le63 (by omega) (by omega)).mp (by have e9 := (lg_cmp_ge _ _).mp hb8; rw [hir, hjr] at e9; exact e9)
      refine lv_iconst (v := 0) hx hb d_Po_comesBefore_36 (by decide) ?_
      have hP9 := hP.sub (ws' := [(o0, .inr (5, [.ref f0, .int (nI oz), .ref o1, .ref o2, .ref o3])), (o1, .inl (cI, 201, .inl otr)), (o2, .inl (cL, 201, .inr (.inl otn))), (o3, .inl (cL, 201, .inr (.inl ork))), (f0, .inr (2, [.int (nI pfc), .ref f1, .ref f2, .ref f3, .ref f4, .ref f5, .int (nI pfe), .ref f6, .ref f7, .ref f8, .ref f9, .ref f10, .int pfu, .int pfw])), (f5, .inl (cL, 8, .inr (.inl fop)))]) [0, 1, 2, 3, 4, 5] rfl
      have hD9 := hD.sub (ws' := [(o0, .inr (5, [.ref f0, .int (nI oz), .ref o1, .ref o2, .ref o3])), (o1, .inl (cI, 201, .inl otr)), (o2, .inl (cL, 201, .inr (.inl otn))), (o3, .inl (cL, 201, .inr (.inl ork))), (f0, .inr (2, [.int (nI pfc), .ref f1, .ref f2, .ref f3, .ref f4, .ref f5, .int (nI pfe), .ref f6, .ref f7, .ref f8, .ref f9, .ref f10, .int pfu, .int pfw])), (f5, .inl (cL, 8, .inr (.inl fop)))]) [0, 1, 2, 3, 4, 5] (by decide) rfl
      subst hQ
      exact W.zret (v := 0) hx hb hr rfl (fun t9 ht9 hW => ⟨⟨0, (), rfl, (Or.inr ⟨rfl, cb_r0 hrn hrl⟩), by rw [ht9]; exact hP9, hD9⟩, hS.F ht9⟩) hS.2.2 d_Po_comesBefore_37
    · skip
      have hrl : lN (rk el[i]) < lN (rk el[j]) := by have e9 := fun z => hb8 ((lg_cmp_ge _ _).mpr z); rw [hir, hjr] at e9; exact Int64.not_le.mp e9
      refine lv_iconst (v := 1) hx hb d_Po_comesBefore_32 (by decide) ?_
      refine lv_goto (tgt := 37) hx hb d_Po_comesBefore_33 (by decide) ?_
      have hP9 := hP.sub (ws' := [(o0, .inr (5, [.ref f0, .int (nI oz), .ref o1, .ref o2, .ref o3])), (o1, .inl (cI, 201, .inl otr)), (o2, .inl (cL, 201, .inr (.inl otn))), (o3, .inl (cL, 201, .inr (.inl ork))), (f0, .inr (2, [.int (nI pfc), .ref f1, .ref f2, .ref f3, .ref f4, .ref f5, .int (nI pfe), .ref f6, .ref f7, .ref f8, .ref f9, .ref f10, .int pfu, .int pfw])), (f5, .inl (cL, 8, .inr (.inl fop)))]) [0, 1, 2, 3, 4, 5] rfl
      have hD9 := hD.sub (ws' := [(o0, .inr (5, [.ref f0, .int (nI oz), .ref o1, .ref o2, .ref o3])), (o1, .inl (cI, 201, .inl otr)), (o2, .inl (cL, 201, .inr (.inl otn))), (o3, .inl (cL, 201, .inr (.inl ork))), (f0, .inr (2, [.int (nI pfc), .ref f1, .ref f2, .ref f3, .ref f4, .ref f5, .int (nI pfe), .ref f6, .ref f7, .ref f8, .ref f9, .ref f10, .int pfu, .int pfw])), (f5, .inl (cL, 8, .inr (.inl fop)))]) [0, 1, 2, 3, 4, 5] (by decide) rfl
      subst hQ
      exact W.zret (v := 1) hx hb hr rfl (fun t9 ht9 hW => ⟨⟨1, (), rfl, (Or.inl ⟨rfl, Or.inl ((lN_lt63 (by omega) (by omega)).mp hrl)⟩), by rw [ht9]; exact hP9, hD9⟩, hS.F ht9⟩) hS.2.2 d_Po_comesBefore_37
