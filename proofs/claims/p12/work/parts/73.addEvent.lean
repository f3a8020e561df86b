set_option maxHeartbeats 4000000 in
set_option maxRecDepth 100000 in
theorem e_Pf_addEvent (l : Launch) (dC : Nat → ClassId) (dI : Nat → Nat → Nat) (cI cL cZ : ClassId) (sz : Nat) (f0 : Nat) (f1 : Nat) (f2 : Nat) (f3 : Nat) (f4 : Nat) (f5 : Nat) (f6 : Nat) (f7 : Nat) (f8 : Nat) (f9 : Nat) (f10 : Nat) (pfc : Nat) (pfe : Nat) (pfu : Int32) (pfw : Int32) (fmk : Nat → Int32) (ftk : Nat → Int32) (ftr : Nat → Int32) (ftn : Nat → Int64) (fca : Nat → Int32) (frk : Nat → Int64) (k : Nat) (x : Int64) (y : Int64) (X : Nat → Prop) (bh : Nat → Nat → Prop) (hpc : pfc ≤ 60) (hpe : pfe < 30) (hCau : CauI pfc fmk fca bh) (hXB : B64 x X) : Met l y_Pf_addEvent (Cond.code y_Pf_addEvent prog_5_method_6_code 8 (some .int) :: wsA) { frames := 2, cells := 0, slots := 0, locals := 46 } (va_Pc [.ref f0, .int (nI k), .long x, .long y] (fun U => U.heap.size = sz ∧ va_P (dC, dI) clA [(f0, .inr (2, [.int (nI pfc), .ref f1, .ref f2, .ref f3, .ref f4, .ref f5, .int (nI pfe), .ref f6, .ref f7, .ref f8, .ref f9, .ref f10, .int pfu, .int pfw])), (f2, .inl (cI, 60, .inl fmk)), (f3, .inl (cI, 60, .inl ftk)), (f6, .inl (cI, 30, .inl ftr)), (f7, .inl (cL, 30, .inr (.inl ftn))), (f8, .inl (cI, 30, .inl fca)), (f10, .inl (cL, 30, .inr (.inl frk)))] U.heap ∧ va_K (dC, dI) clA [(cI, .int), (cL, .long), (cZ, .boolean)] U ∧ va_D (fun _ => True) [(f0, .inr (2, [.int (nI pfc), .ref f1, .ref f2, .ref f3, .ref f4, .ref f5, .int (nI pfe), .ref f6, .ref f7, .ref f8, .ref f9, .ref f10, .int pfu, .int pfw])), (f2, .inl (cI, 60, .inl fmk)), (f3, .inl (cI, 60, .inl ftk)), (f6, .inl (cI, 30, .inl ftr)), (f7, .inl (cL, 30, .inr (.inl ftn))), (f8, .inl (cI, 30, .inl fca)), (f10, .inl (cL, 30, .inr (.inl frk)))] ∧ NwA U)) (va_Qi (fun r (_ : Unit) => r = nI pfe) (fun _ t => ∃ (ftk1 : Nat → Int32), ∃ (fca1 : Nat → Int32), (TkE ftk ftk1 X pfe pfc pfc) ∧ (∀ j, j ≠ pfe → fca1 j = fca j) ∧ (B32 (fca1 pfe) (fun f => (∃ c, c < pfc ∧ (X c ∧ bh c f)) ∨ f = pfe)) ∧ va_P (dC, dI) clA [(f0, .inr (2, [.int (nI pfc), .ref f1, .ref f2, .ref f3, .ref f4, .ref f5, .int (nI (pfe + 1)), .ref f6, .ref f7, .ref f8, .ref f9, .ref f10, .int pfu, .int pfw])), (f2, .inl (cI, 60, .inl fmk)), (f3, .inl (cI, 60, .inl ftk1)), (f6, .inl (cI, 30, .inl (upd ftr pfe (nI k)))), (f7, .inl (cL, 30, .inr (.inl (vp_updL ftn pfe x)))), (f8, .inl (cI, 30, .inl fca1)), (f10, .inl (cL, 30, .inr (.inl (vp_updL frk pfe y))))] t.heap ∧ va_D (va_A [(f0, .inr (2, [.int (nI pfc), .ref f1, .ref f2, .ref f3, .ref f4, .ref f5, .int (nI pfe), .ref f6, .ref f7, .ref f8, .ref f9, .ref f10, .int pfu, .int pfw])), (f2, .inl (cI, 60, .inl fmk)), (f3, .inl (cI, 60, .inl ftk)), (f6, .inl (cI, 30, .inl ftr)), (f7, .inl (cL, 30, .inr (.inl ftn))), (f8, .inl (cI, 30, .inl fca)), (f10, .inl (cL, 30, .inr (.inl frk)))] sz) [(f0, .inr (2, [.int (nI pfc), .ref f1, .ref f2, .ref f3, .ref f4, .ref f5, .int (nI (pfe + 1)), .ref f6, .ref f7, .ref f8, .ref f9, .ref f10, .int pfu, .int pfw])), (f2, .inl (cI, 60, .inl fmk)), (f3, .inl (cI, 60, .inl ftk1)), (f6, .inl (cI, 30, .inl (upd ftr pfe (nI k)))), (f7, .inl (cL, 30, .inr (.inl (vp_updL ftn pfe x)))), (f8, .inl (cI, 30, .inl fca1)), (f10, .inl (cL, 30, .inr (.inl (vp_updL frk pfe y))))]) (va_A [(f0, .inr (2, [.int (nI pfc), .ref f1, .ref f2, .ref f3, .ref f4, .ref f5, .int (nI pfe), .ref f6, .ref f7, .ref f8, .ref f9, .ref f10, .int pfu, .int pfw])), (f2, .inl (cI, 60, .inl fmk)), (f3, .inl (cI, 60, .inl ftk)), (f6, .inl (cI, 30, .inl ftr)), (f7, .inl (cL, 30, .inr (.inl ftn))), (f8, .inl (cI, 30, .inl fca)), (f10, .inl (cL, 30, .inr (.inl frk)))] sz)) 0 0 (va_A [(f0, .inr (2, [.int (nI pfc), .ref f1, .ref f2, .ref f3, .ref f4, .ref f5, .int (nI pfe), .ref f6, .ref f7, .ref f8, .ref f9, .ref f10, .int pfu, .int pfw])), (f2, .inl (cI, 60, .inl fmk)), (f3, .inl (cI, 60, .inl ftk)), (f6, .inl (cI, 30, .inl ftr)), (f7, .inl (cL, 30, .inr (.inl ftn))), (f8, .inl (cI, 30, .inl fca)), (f10, .inl (cL, 30, .inr (.inl frk)))] sz) := by
  refine Met.ofW (cc := prog_5_method_6_code) (maxL := 8) (ret := (some .int)) (by decide) rfl ?_
  intro p e s m args below meth c s₁ B hml hv
  obtain ⟨rfl, hsz, hP, hK, hD0, hN⟩ := hv
  have hx := B.exec
  have hb := B.bytes
  have hr := B.returns
  have ht : ∀ w ∈ wsA, w.before _ s = true := fun w h => atoms_spec (ws := (Cond.code y_Pf_addEvent prog_5_method_6_code 8 (some .int) :: wsA)) B.pre w (List.mem_cons_of_mem _ h)
  have hown : s.vm.findClass "NetUnfolder$Prefix" = some m.cls := findClass_of_methodNamed B.named
  have hlocks := B.notSynchronized
  subst hsz
  have hD := hD0.self (sz := s.heap.size)
  generalize hAe : va_A [(f0, .inr (2, [.int (nI pfc), .ref f1, .ref f2, .ref f3, .ref f4, .ref f5, .int (nI pfe), .ref f6, .ref f7, .ref f8, .ref f9, .ref f10, .int pfu, .int pfw])), (f2, .inl (cI, 60, .inl fmk)), (f3, .inl (cI, 60, .inl ftk)), (f6, .inl (cI, 30, .inl ftr)), (f7, .inl (cL, 30, .inr (.inl ftn))), (f8, .inl (cI, 30, .inl fca)), (f10, .inl (cL, 30, .inr (.inl frk)))] s.heap.size = A at hD ⊢
  have hA : ∀ q : Nat, s.heap.size ≤ q → A q := fun q h => by rw [← hAe]; exact Or.inr h
  have hS : va_S A s.heap s.heap [] := va_S.rf
  have hl := lv_entry ([.ref f0, .int (nI k), .long x, .long y]) (n := 8) (Nat.le_of_ble_eq_true rfl)
  rw [lg_entry_eq]
  generalize (lg_sl ([.ref f0, .int (nI k), .long x, .long y]) ++ List.replicate (8 - (lg_sl ([.ref f0, .int (nI k), .long x, .long y])).length) Slot.unset).toArray = ls at hl ⊢
  replace hl : lv_has ls 8 [(0, .ref f0), (1, .int (nI k)), (2, .long x), (4, .long y)] := hl
  refine W_Q (fun Q hQ => ?_)
  refine lv_aload_n hx hb d_Pf_addEvent_0 rfl (lv_at hl 0 rfl) ?_
  refine va_get (D := (dC, dI)) (ci := 2) (v := .int (nI pfe)) (C := "NetUnfolder$Prefix") (T := T_Pf) (N := 14) hx hb ht in_Pf hown hK hP 0 rfl rfl 6 (by decide) (ht _ wd_1_82) (fun _ h9 => h9) rfl d_Pf_addEvent_1 ?_
  refine lv_istore (lv' := [(6, .int (nI pfe)), (0, .ref f0), (1, .int (nI k)), (2, .long x), (4, .long y)]) hx hb d_Pf_addEvent_4 hl (by decide) rfl (fun ls hln => ?_)
  replace hl : lv_has ls 8 [(6, .int (nI pfe)), (0, .ref f0), (1, .int (nI k)), (2, .long x), (4, .long y)] := hln
  clear hln
  refine lv_aload_n hx hb d_Pf_addEvent_6 rfl (lv_at hl 1 rfl) ?_
  refine va_get (D := (dC, dI)) (ci := 2) (v := .ref f6) (C := "NetUnfolder$Prefix") (T := T_Pf) (N := 14) hx hb ht in_Pf hown hK hP 0 rfl rfl 7 (by decide) (ht _ wd_1_86) (fun _ h9 => h9) rfl d_Pf_addEvent_7 ?_
  refine lv_iload hx hb d_Pf_addEvent_10 (lv_at hl 0 rfl) ?_
  refine lv_iload_n hx hb d_Pf_addEvent_12 rfl (lv_at hl 2 rfl) ?_
  refine na_iast (k := pfe) hx hb hK hP hD hS 3 0 rfl rfl (by omega) (by decide) d_Pf_addEvent_13 (fun H1 locs hPn hDn hSn => ?_)
  replace hP : va_P (dC, dI) clA [(f0, .inr (2, [.int (nI pfc), .ref f1, .ref f2, .ref f3, .ref f4, .ref f5, .int (nI pfe), .ref f6, .ref f7, .ref f8, .ref f9, .ref f10, .int pfu, .int pfw])), (f2, .inl (cI, 60, .inl fmk)), (f3, .inl (cI, 60, .inl ftk)), (f6, .inl (cI, 30, .inl (upd ftr pfe (nI k)))), (f7, .inl (cL, 30, .inr (.inl ftn))), (f8, .inl (cI, 30, .inl fca)), (f10, .inl (cL, 30, .inr (.inl frk)))] H1 := hPn
  replace hD : va_D A [(f0, .inr (2, [.int (nI pfc), .ref f1, .ref f2, .ref f3, .ref f4, .ref f5, .int (nI pfe), .ref f6, .ref f7, .ref f8, .ref f9, .ref f10, .int pfu, .int pfw])), (f2, .inl (cI, 60, .inl fmk)), (f3, .inl (cI, 60, .inl ftk)), (f6, .inl (cI, 30, .inl (upd ftr pfe (nI k)))), (f7, .inl (cL, 30, .inr (.inl ftn))), (f8, .inl (cI, 30, .inl fca)), (f10, .inl (cL, 30, .inr (.inl frk)))] := hDn
  replace hS := hSn
  clear hPn hDn hSn
  refine lv_aload_n hx hb d_Pf_addEvent_14 rfl (lv_at hl 1 rfl) ?_
  refine va_get (D := (dC, dI)) (ci := 2) (v := .ref f7) (C := "NetUnfolder$Prefix") (T := T_Pf) (N := 14) hx hb ht in_Pf hown hK hP 0 rfl rfl 8 (by decide) (ht _ wd_1_90) (fun _ h9 => h9) rfl d_Pf_addEvent_15 ?_
  refine lv_iload hx hb d_Pf_addEvent_18 (lv_at hl 0 rfl) ?_
  refine lv_lload_n hx hb d_Pf_addEvent_20 rfl (lv_at hl 3 rfl) ?_
  refine na_last (k := pfe) hx hb hK hP hD hS 4 1 rfl rfl (by omega) (by decide) d_Pf_addEvent_21 (fun H2 locs hPn hDn hSn => ?_)
  replace hP : va_P (dC, dI) clA [(f0, .inr (2, [.int (nI pfc), .ref f1, .ref f2, .ref f3, .ref f4, .ref f5, .int (nI pfe), .ref f6, .ref f7, .ref f8, .ref f9, .ref f10, .int pfu, .int pfw])), (f2, .inl (cI, 60, .inl fmk)), (f3, .inl (cI, 60, .inl ftk)), (f6, .inl (cI, 30, .inl (upd ftr pfe (nI k)))), (f7, .inl (cL, 30, .inr (.inl (vp_updL ftn pfe x)))), (f8, .inl (cI, 30, .inl fca)), (f10, .inl (cL, 30, .inr (.inl frk)))] H2 := hPn
  replace hD : va_D A [(f0, .inr (2, [.int (nI pfc), .ref f1, .ref f2, .ref f3, .ref f4, .ref f5, .int (nI pfe), .ref f6, .ref f7, .ref f8, .ref f9, .ref f10, .int pfu, .int pfw])), (f2, .inl (cI, 60, .inl fmk)), (f3, .inl (cI, 60, .inl ftk)), (f6, .inl (cI, 30, .inl (upd ftr pfe (nI k)))), (f7, .inl (cL, 30, .inr (.inl (vp_updL ftn pfe x)))), (f8, .inl (cI, 30, .inl fca)), (f10, .inl (cL, 30, .inr (.inl frk)))] := hDn
  replace hS := hSn
  clear hPn hDn hSn
  refine lv_aload_n hx hb d_Pf_addEvent_22 rfl (lv_at hl 1 rfl) ?_
  refine va_get (D := (dC, dI)) (ci := 2) (v := .ref f8) (C := "NetUnfolder$Prefix") (T := T_Pf) (N := 14) hx hb ht in_Pf hown hK hP 0 rfl rfl 9 (by decide) (ht _ wd_1_92) (fun _ h9 => h9) rfl d_Pf_addEvent_23 ?_
  refine lv_iload hx hb d_Pf_addEvent_26 (lv_at hl 0 rfl) ?_
  refine lv_aload_n hx hb d_Pf_addEvent_28 rfl (lv_at hl 1 rfl) ?_
  refine lv_lload_n hx hb d_Pf_addEvent_29 rfl (lv_at hl 3 rfl) ?_
  have hPc := hP.sub (ws' := [(f0, .inr (2, [.int (nI pfc), .ref f1, .ref f2, .ref f3, .ref f4, .ref f5, .int (nI pfe), .ref f6, .ref f7, .ref f8, .ref f9, .ref f10, .int pfu, .int pfw])), (f2, .inl (cI, 60, .inl fmk)), (f8, .inl (cI, 30, .inl fca))]) [0, 1, 5] rfl
  have hDc := hD.sub (ws' := [(f0, .inr (2, [.int (nI pfc), .ref f1, .ref f2, .ref f3, .ref f4, .ref f5, .int (nI pfe), .ref f6, .ref f7, .ref f8, .ref f9, .ref f10, .int pfu, .int pfw])), (f2, .inl (cI, 60, .inl fmk)), (f8, .inl (cI, 30, .inl fca))]) [0, 1, 5] (by decide) rfl
  have hFc := va_free (wc := [(f0, .inr (2, [.int (nI pfc), .ref f1, .ref f2, .ref f3, .ref f4, .ref f5, .int (nI pfe), .ref f6, .ref f7, .ref f8, .ref f9, .ref f10, .int pfu, .int pfw])), (f2, .inl (cI, 60, .inl fmk)), (f8, .inl (cI, 30, .inl fca))]) hD hS hA [0, 1, 5] rfl
  refine va_calli (va_runV (C := "NetUnfolder$Prefix") (As := [.long x]) (rest := [.int (nI pfe), .ref f8]) ⟨hx, hb, hml, hown, ht⟩ (e_Pf_causesOf l dC dI cI cL cZ _ f0 f1 f2 f3 f4 f5 f6 f7 f8 f9 f10 pfc pfe pfu pfw fmk fca x X bh (by first | assumption | omega | trivial | exact AllLt.zero | exact AllN.zero | exact AllM.zero | exact Or.inl rfl | exact Or.inr rfl) (by first | assumption | omega | trivial | exact AllLt.zero | exact AllN.zero | exact AllM.zero | exact Or.inl rfl | exact Or.inr rfl) (by first | assumption | omega | trivial | exact AllLt.zero | exact AllN.zero | exact AllM.zero | exact Or.inl rfl | exact Or.inr rfl)) (cwV 1 ht (good_V wd_2_193 wd_2_117 wd_2_118 wd_1_3 wd_2_119) rfl rfl rfl (by decide +kernel) ⟨Nat.le_of_ble_eq_true rfl, Nat.le_of_ble_eq_true rfl⟩) ⟨fun a U g mk q => by obtain ⟨q0, q1, qP, qK, qD, qN⟩ := q; exact ⟨q0, q1, qP, va_K.moved (u := U) (U := U.calling g mk a) (Vm.Alike.refl U.vm) qK, qD, NwA.same (u := U) rfl qN⟩, (va_recv (q0 := 0) (ci := 2) hK hP rfl rfl), fun U hU hW => ⟨rfl, by rw [hU], by rw [hU]; exact hPc, va_K.moved hW.alike hK, hDc.weaken (fun _ _ _ _ => trivial), NwA.warm hW hN⟩⟩ rfl rfl hl.1 rfl (lv_room (Nat.le_of_ble_eq_true rfl)) d_Pf_addEvent_30 ⟨Nat.le_of_ble_eq_true rfl, Nat.le_of_ble_eq_true rfl⟩) hS (fun q _ h => hFc q h) hFc (fun r5 u9 t9 H3 locs ht9 hvm hw4 hB hz1 hk1 hSn => ?_)
  obtain ⟨hP1, hD1⟩ := hB
  rw [ht9] at hP1
  obtain ⟨hPn, hDn⟩ := va_join (wr := [(f3, .inl (cI, 60, .inl ftk)), (f6, .inl (cI, 30, .inl (upd ftr pfe (nI k)))), (f7, .inl (cL, 30, .inr (.inl (vp_updL ftn pfe x)))), (f10, .inl (cL, 30, .inr (.inl frk)))]) (w1 := [(f0, .inr (2, [.int (nI pfc), .ref f1, .ref f2, .ref f3, .ref f4, .ref f5, .int (nI pfe), .ref f6, .ref f7, .ref f8, .ref f9, .ref f10, .int pfu, .int pfw])), (f2, .inl (cI, 60, .inl fmk)), (f8, .inl (cI, 30, .inl fca))]) hP hD [0, 1, 5] [2, 3, 4, 6] rfl rfl (by decide) (by decide) hk1 hFc hP1 hD1
  replace hP : va_P (dC, dI) clA [(f3, .inl (cI, 60, .inl ftk)), (f6, .inl (cI, 30, .inl (upd ftr pfe (nI k)))), (f7, .inl (cL, 30, .inr (.inl (vp_updL ftn pfe x)))), (f10, .inl (cL, 30, .inr (.inl frk))), (f0, .inr (2, [.int (nI pfc), .ref f1, .ref f2, .ref f3, .ref f4, .ref f5, .int (nI pfe), .ref f6, .ref f7, .ref f8, .ref f9, .ref f10, .int pfu, .int pfw])), (f2, .inl (cI, 60, .inl fmk)), (f8, .inl (cI, 30, .inl fca))] H3 := hPn
  replace hD : va_D A [(f3, .inl (cI, 60, .inl ftk)), (f6, .inl (cI, 30, .inl (upd ftr pfe (nI k)))), (f7, .inl (cL, 30, .inr (.inl (vp_updL ftn pfe x)))), (f10, .inl (cL, 30, .inr (.inl frk))), (f0, .inr (2, [.int (nI pfc), .ref f1, .ref f2, .ref f3, .ref f4, .ref f5, .int (nI pfe), .ref f6, .ref f7, .ref f8, .ref f9, .ref f10, .int pfu, .int pfw])), (f2, .inl (cI, 60, .inl fmk)), (f8, .inl (cI, 30, .inl fca))] := hDn
  replace hS := hSn
  clear hPn hDn hSn
  clear hPc hDc hFc hP1 hD1 hk1 hz1 ht9 hvm
  refine W.cs (cells' := 0) (slots' := 0) rfl rfl ?_
  have hr6 := hw4
  refine lv_iconst (v := 1) hx hb d_Pf_addEvent_33 (by decide) ?_
  refine lv_iload hx hb d_Pf_addEvent_34 (lv_at hl 0 rfl) ?_
  refine lv_ishl hx hb d_Pf_addEvent_36 ?_
  refine lv_ior hx hb d_Pf_addEvent_37 ?_
  refine na_iast (k := pfe) hx hb hK hP hD hS 6 0 rfl rfl (by omega) (by decide) d_Pf_addEvent_38 (fun H7 locs hPn hDn hSn => ?_)
  replace hP : va_P (dC, dI) clA [(f3, .inl (cI, 60, .inl ftk)), (f6, .inl (cI, 30, .inl (upd ftr pfe (nI k)))), (f7, .inl (cL, 30, .inr (.inl (vp_updL ftn pfe x)))), (f10, .inl (cL, 30, .inr (.inl frk))), (f0, .inr (2, [.int (nI pfc), .ref f1, .ref f2, .ref f3, .ref f4, .ref f5, .int (nI pfe), .ref f6, .ref f7, .ref f8, .ref f9, .ref f10, .int pfu, .int pfw])), (f2, .inl (cI, 60, .inl fmk)), (f8, .inl (cI, 30, .inl (upd fca pfe (r5 ||| (1 <<< ((nI pfe) &&& 31))))))] H7 := hPn
  replace hD : va_D A [(f3, .inl (cI, 60, .inl ftk)), (f6, .inl (cI, 30, .inl (upd ftr pfe (nI k)))), (f7, .inl (cL, 30, .inr (.inl (vp_updL ftn pfe x)))), (f10, .inl (cL, 30, .inr (.inl frk))), (f0, .inr (2, [.int (nI pfc), .ref f1, .ref f2, .ref f3, .ref f4, .ref f5, .int (nI pfe), .ref f6, .ref f7, .ref f8, .ref f9, .ref f10, .int pfu, .int pfw])), (f2, .inl (cI, 60, .inl fmk)), (f8, .inl (cI, 30, .inl (upd fca pfe (r5 ||| (1 <<< ((nI pfe) &&& 31))))))] := hDn
  replace hS := hSn
  clear hPn hDn hSn
  refine lv_aload_n hx hb d_Pf_addEvent_39 rfl (lv_at hl 1 rfl) ?_
  refine va_get (D := (dC, dI)) (ci := 2) (v := .ref f10) (C := "NetUnfolder$Prefix") (T := T_Pf) (N := 14) hx hb ht in_Pf hown hK hP 4 rfl rfl 11 (by decide) (ht _ wd_1_98) (fun _ h9 => h9) rfl d_Pf_addEvent_40 ?_
  refine lv_iload hx hb d_Pf_addEvent_43 (lv_at hl 0 rfl) ?_
  refine lv_lload hx hb d_Pf_addEvent_45 (lv_at hl 4 rfl) ?_
  refine na_last (k := pfe) hx hb hK hP hD hS 3 1 rfl rfl (by omega) (by decide) d_Pf_addEvent_47 (fun H8 locs hPn hDn hSn => ?_)
  replace hP : va_P (dC, dI) clA [(f3, .inl (cI, 60, .inl ftk)), (f6, .inl (cI, 30, .inl (upd ftr pfe (nI k)))), (f7, .inl (cL, 30, .inr (.inl (vp_updL ftn pfe x)))), (f10, .inl (cL, 30, .inr (.inl (vp_updL frk pfe y)))), (f0, .inr (2, [.int (nI pfc), .ref f1, .ref f2, .ref f3, .ref f4, .ref f5, .int (nI pfe), .ref f6, .ref f7, .ref f8, .ref f9, .ref f10, .int pfu, .int pfw])), (f2, .inl (cI, 60, .inl fmk)), (f8, .inl (cI, 30, .inl (upd fca pfe (r5 ||| (1 <<< ((nI pfe) &&& 31))))))] H8 := hPn
  replace hD : va_D A [(f3, .inl (cI, 60, .inl ftk)), (f6, .inl (cI, 30, .inl (upd ftr pfe (nI k)))), (f7, .inl (cL, 30, .inr (.inl (vp_updL ftn pfe x)))), (f10, .inl (cL, 30, .inr (.inl (vp_updL frk pfe y)))), (f0, .inr (2, [.int (nI pfc), .ref f1, .ref f2, .ref f3, .ref f4, .ref f5, .int (nI pfe), .ref f6, .ref f7, .ref f8, .ref f9, .ref f10, .int pfu, .int pfw])), (f2, .inl (cI, 60, .inl fmk)), (f8, .inl (cI, 30, .inl (upd fca pfe (r5 ||| (1 <<< ((nI pfe) &&& 31))))))] := hDn
  replace hS := hSn
  clear hPn hDn hSn
  refine lv_iconst (v := 0) hx hb d_Pf_addEvent_48 (by decide) ?_
  refine lv_istore (lv' := [(7, .int 0), (6, .int (nI pfe)), (0, .ref f0), (1, .int (nI k)), (2, .long x), (4, .long y)]) hx hb d_Pf_addEvent_49 hl (by decide) rfl (fun ls hln => ?_)
  replace hl : lv_has ls 8 [(7, .int 0), (6, .int (nI pfe)), (0, .ref f0), (1, .int (nI k)), (2, .long x), (4, .long y)] := hln
  clear hln
  have hloop9 : ∀ (n51 : Nat) (i : Nat) (ftk2 : Nat → Int32) (hi : i ≤ pfc) (htk : TkE ftk ftk2 X pfe i pfc) (H : Heap) (locs : List Loc) (ls : Array Slot) (hl : lv_has ls 8 [(0, .ref f0), (1, .int (nI k)), (2, .long x), (4, .long y), (6, .int (nI pfe)), (7, .int (nI i))]) (hP : va_P (dC, dI) clA [(f3, .inl (cI, 60, .inl ftk2)), (f6, .inl (cI, 30, .inl (upd ftr pfe (nI k)))), (f7, .inl (cL, 30, .inr (.inl (vp_updL ftn pfe x)))), (f10, .inl (cL, 30, .inr (.inl (vp_updL frk pfe y)))), (f0, .inr (2, [.int (nI pfc), .ref f1, .ref f2, .ref f3, .ref f4, .ref f5, .int (nI pfe), .ref f6, .ref f7, .ref f8, .ref f9, .ref f10, .int pfu, .int pfw])), (f2, .inl (cI, 60, .inl fmk)), (f8, .inl (cI, 30, .inl (upd fca pfe (r5 ||| (1 <<< ((nI pfe) &&& 31))))))] H) (hD : va_D A [(f3, .inl (cI, 60, .inl ftk2)), (f6, .inl (cI, 30, .inl (upd ftr pfe (nI k)))), (f7, .inl (cL, 30, .inr (.inl (vp_updL ftn pfe x)))), (f10, .inl (cL, 30, .inr (.inl (vp_updL frk pfe y)))), (f0, .inr (2, [.int (nI pfc), .ref f1, .ref f2, .ref f3, .ref f4, .ref f5, .int (nI pfe), .ref f6, .ref f7, .ref f8, .ref f9, .ref f10, .int pfu, .int pfw])), (f2, .inl (cI, 60, .inl fmk)), (f8, .inl (cI, 30, .inl (upd fca pfe (r5 ||| (1 <<< ((nI pfe) &&& 31))))))]) (hS : va_S A s.heap H locs) (hm51 : pfc - i < n51), W p l e (headSpec (Cond.code y_Pf_addEvent prog_5_method_6_code 8 (some .int) :: wsA) { frames := 2, cells := 0, slots := 0, locals := 46 }).room s m ([.ref f0, .int (nI k), .long x, .long y] : List Value).toArray below meth c H locs 0 0 Q (F0 m 51 ls []) := by
    clear hl hP hD hS
    intro n51
    induction n51 with
    | zero => intro i ftk2 hi htk H locs ls hl hP hD hS hm; exact absurd hm (Nat.not_lt_zero _)
    | succ n51 hloop9_ih =>
      intro i ftk2 hi htk H locs ls hl hP hD hS hm51
      refine lv_iload hx hb d_Pf_addEvent_51 (lv_at hl 5 rfl) ?_
      refine lv_aload_n hx hb d_Pf_addEvent_53 rfl (lv_at hl 0 rfl) ?_
      refine va_get (D := (dC, dI)) (ci := 2) (v := .int (nI pfc)) (C := "NetUnfolder$Prefix") (T := T_Pf) (N := 14) hx hb ht in_Pf hown hK hP 4 rfl rfl 0 (by decide) (ht _ wd_1_62) (fun _ h9 => h9) rfl d_Pf_addEvent_54 ?_
      refine lv_icmp_ge (tgt := 89) hx hb d_Pf_addEvent_57 (by decide) (fun hb10 => ?_) (fun hb10 => ?_)
      · skip
        replace hb10 := cv_le (a := pfc) (b := i) (by omega) (by omega) hb10
        refine lv_aload_n hx hb d_Pf_addEvent_89 rfl (lv_at hl 0 rfl) ?_
        refine lv_dup hx hb d_Pf_addEvent_90 rfl ?_
        refine va_get (D := (dC, dI)) (ci := 2) (v := .int (nI pfe)) (C := "NetUnfolder$Prefix") (T := T_Pf) (N := 14) hx hb ht in_Pf hown hK hP 4 rfl rfl 6 (by decide) (ht _ wd_1_82) (fun _ h9 => h9) rfl d_Pf_addEvent_91 ?_
        refine lv_iconst (v := 1) hx hb d_Pf_addEvent_94 (by decide) ?_
        refine lv_iadd hx hb d_Pf_addEvent_95 ?_
        refine ci_i (y := nI (pfe + 1)) (cv_add pfe 1) ?_
        refine va_put (D := (dC, dI)) (ci := 2) (v := .int (nI (pfe + 1))) (ty := .int) (C := "NetUnfolder$Prefix") (T := T_Pf) (N := 14) hx hb ht in_Pf ty_Pf ok_Pf nm_Pf hown hK hP hD hS 4 rfl rfl 6 (by decide) (ht _ wd_1_82) (fun _ h9 => h9) rfl (by decide +kernel) rfl rfl (Nat.le_of_ble_eq_true rfl) d_Pf_addEvent_96 (fun H11 locs hPn hDn hSn => ?_)
        replace hP : va_P (dC, dI) clA [(f3, .inl (cI, 60, .inl ftk2)), (f6, .inl (cI, 30, .inl (upd ftr pfe (nI k)))), (f7, .inl (cL, 30, .inr (.inl (vp_updL ftn pfe x)))), (f10, .inl (cL, 30, .inr (.inl (vp_updL frk pfe y)))), (f0, .inr (2, [.int (nI pfc), .ref f1, .ref f2, .ref f3, .ref f4, .ref f5, .int (nI (pfe + 1)), .ref f6, .ref f7, .ref f8, .ref f9, .ref f10, .int pfu, .int pfw])), (f2, .inl (cI, 60, .inl fmk)), (f8, .inl (cI, 30, .inl (upd fca pfe (r5 ||| (1 <<< ((nI pfe) &&& 31))))))] H11 := hPn
        replace hD : va_D A [(f3, .inl (cI, 60, .inl ftk2)), (f6, .inl (cI, 30, .inl (upd ftr pfe (nI k)))), (f7, .inl (cL, 30, .inr (.inl (vp_updL ftn pfe x)))), (f10, .inl (cL, 30, .inr (.inl (vp_updL frk pfe y)))), (f0, .inr (2, [.int (nI pfc), .ref f1, .ref f2, .ref f3, .ref f4, .ref f5, .int (nI (pfe + 1)), .ref f6, .ref f7, .ref f8, .ref f9, .ref f10, .int pfu, .int pfw])), (f2, .inl (cI, 60, .inl fmk)), (f8, .inl (cI, 30, .inl (upd fca pfe (r5 ||| (1 <<< ((nI pfe) &&& 31))))))] := hDn
        replace hS := hSn
        clear hPn hDn hSn
        refine lv_iload hx hb d_Pf_addEvent_99 (lv_at hl 4 rfl) ?_
        have hP9 := hP.sub (ws' := [(f0, .inr (2, [.int (nI pfc), .ref f1, .ref f2, .ref f3, .ref f4, .ref f5, .int (nI (pfe + 1)), .ref f6, .ref f7, .ref f8, .ref f9, .ref f10, .int pfu, .int pfw])), (f2, .inl (cI, 60, .inl fmk)), (f3, .inl (cI, 60, .inl ftk2)), (f6, .inl (cI, 30, .inl (upd ftr pfe (nI k)))), (f7, .inl (cL, 30, .inr (.inl (vp_updL ftn pfe x)))), (f8, .inl (cI, 30, .inl (upd fca pfe (r5 ||| (1 <<< ((nI pfe) &&& 31)))))), (f10, .inl (cL, 30, .inr (.inl (vp_updL frk pfe y))))]) [4, 5, 0, 1, 2, 6, 3] rfl
        have hD9 := hD.sub (ws' := [(f0, .inr (2, [.int (nI pfc), .ref f1, .ref f2, .ref f3, .ref f4, .ref f5, .int (nI (pfe + 1)), .ref f6, .ref f7, .ref f8, .ref f9, .ref f10, .int pfu, .int pfw])), (f2, .inl (cI, 60, .inl fmk)), (f3, .inl (cI, 60, .inl ftk2)), (f6, .inl (cI, 30, .inl (upd ftr pfe (nI k)))), (f7, .inl (cL, 30, .inr (.inl (vp_updL ftn pfe x)))), (f8, .inl (cI, 30, .inl (upd fca pfe (r5 ||| (1 <<< ((nI pfe) &&& 31)))))), (f10, .inl (cL, 30, .inr (.inl (vp_updL frk pfe y))))]) [4, 5, 0, 1, 2, 6, 3] (by decide) rfl
        subst hQ
        exact W.iret (v := nI pfe) hx hb hr (fun t9 ht9 hW => ⟨⟨nI pfe, (), rfl, rfl, ftk2, (upd fca pfe (r5 ||| (1 <<< ((nI pfe) &&& 31)))), (by have e9 : i = pfc := (by omega); subst e9; assumption), (fun j hj => upd_ne hj), (by rw [upd_at]; exact hr6.or (B32.bit (by omega))), by rw [ht9]; exact hP9, hD9⟩, hS.F ht9⟩) hS.2.2 d_Pf_addEvent_101
      · skip
        replace hb10 := cv_nle (a := pfc) (b := i) (by omega) (by omega) hb10
        refine lv_lload_n hx hb d_Pf_addEvent_60 rfl (lv_at hl 2 rfl) ?_
        refine lv_iload hx hb d_Pf_addEvent_61 (lv_at hl 5 rfl) ?_
        have hPc : va_P (dC, dI) clA [] _ := pu_P (H := H)
        have hDc : va_D (fun _ => True) [] := pu_D
        have hFc := pu_free hS hA
        refine va_calli (va_runSN (As := [.long x, .int (nI i)]) (rest := []) ⟨hx, hb, hml, hown, ht⟩ (c_NU_has l dC dI cI cL cZ _ x i (by first | assumption | omega | trivial | exact AllLt.zero | exact AllN.zero | exact AllM.zero | exact Or.inl rfl | exact Or.inr rfl)) ⟨va_cnB 2 ht (goodA wd_2_102) rfl rfl rfl hN.2.2.2.2.1 (ht _ wd_1_1) (by decide +kernel) ⟨Nat.le_of_ble_eq_true rfl, Nat.le_of_ble_eq_true rfl⟩, ht _ wd_2_101, trivial⟩ ⟨fun a U g mk q => by obtain ⟨q0, q1, qP, qK, qD, qN⟩ := q; exact ⟨q0, q1, qP, va_K.moved (u := U) (U := U.calling g mk a) (Vm.Alike.refl U.vm) qK, qD, NwA.same (u := U) rfl qN⟩, fun U hU hW => ⟨rfl, by rw [hU], by rw [hU]; exact hPc, va_K.moved hW.alike hK, hDc.weaken (fun _ _ _ _ => trivial), NwA.warm hW hN⟩⟩ rfl rfl hl.1 rfl (lv_room (Nat.le_of_ble_eq_true rfl)) d_Pf_addEvent_63 ⟨Nat.le_of_ble_eq_true rfl, Nat.le_of_ble_eq_true rfl⟩) hS (fun q _ h => hFc q h) hFc (fun r14 u9 t9 H12 locs ht9 hvm hw13 hB hz1 hk1 hSn => ?_)
        replace hP : va_P (dC, dI) clA [(f3, .inl (cI, 60, .inl ftk2)), (f6, .inl (cI, 30, .inl (upd ftr pfe (nI k)))), (f7, .inl (cL, 30, .inr (.inl (vp_updL ftn pfe x)))), (f10, .inl (cL, 30, .inr (.inl (vp_updL frk pfe y)))), (f0, .inr (2, [.int (nI pfc), .ref f1, .ref f2, .ref f3, .ref f4, .ref f5, .int (nI pfe), .ref f6, .ref f7, .ref f8, .ref f9, .ref f10, .int pfu, .int pfw])), (f2, .inl (cI, 60, .inl fmk)), (f8, .inl (cI, 30, .inl (upd fca pfe (r5 ||| (1 <<< ((nI pfe) &&& 31))))))] H12 := pu_keep hP hk1
        replace hS := hSn
        clear hSn hPc hDc hFc hk1 hz1 ht9 hvm hB
        refine W.cs (cells' := 0) (slots' := 0) rfl rfl ?_
        subst hw13
        refine lv_if_eq (tgt := 83) hx hb d_Pf_addEvent_66 (by decide) (fun hb15 => ?_) (fun hb15 => ?_)
        · skip
          refine lv_iinc (k := 5) (v := nI (i + 1)) (lv' := [(7, .int (nI (i + 1))), (0, .ref f0), (1, .int (nI k)), (2, .long x), (4, .long y), (6, .int (nI pfe))]) hx hb d_Pf_addEvent_83 hl rfl (nI_1 _) (by decide) rfl (fun ls hln => ?_)
          replace hl : lv_has ls 8 [(7, .int (nI (i + 1))), (0, .ref f0), (1, .int (nI k)), (2, .long x), (4, .long y), (6, .int (nI pfe))] := hln
          clear hln
          refine lv_goto (tgt := 51) hx hb d_Pf_addEvent_86 (by decide) ?_
          exact hloop9_ih (i + 1) ftk2 (by first | assumption | omega | trivial | exact AllLt.zero | exact AllN.zero | exact AllM.zero | exact Or.inl rfl | exact Or.inr rfl) (TkE.skip htk (hXB.has.mp hb15)) _ _ ls (lv_sub hl [1, 2, 3, 4, 5, 0] rfl) (hP.sub [0, 1, 2, 3, 4, 5, 6] rfl) (hD.sub [0, 1, 2, 3, 4, 5, 6] (by decide) rfl) hS (by omega)
        · skip
          have hXi : X i := Classical.byContradiction (fun z => hb15 (hXB.has.mpr z))
          refine lv_aload_n hx hb d_Pf_addEvent_69 rfl (lv_at hl 0 rfl) ?_
          refine va_get (D := (dC, dI)) (ci := 2) (v := .ref f3) (C := "NetUnfolder$Prefix") (T := T_Pf) (N := 14) hx hb ht in_Pf hown hK hP 4 rfl rfl 3 (by decide) (ht _ wd_1_73) (fun _ h9 => h9) rfl d_Pf_addEvent_70 ?_
          refine lv_iload hx hb d_Pf_addEvent_73 (lv_at hl 5 rfl) ?_
          refine lv_dup2_11 hx hb d_Pf_addEvent_75 rfl rfl ?_
          refine na_iald (k := i) hx hb hK hP 0 0 rfl rfl (by omega) (by decide) d_Pf_addEvent_76 ?_
          refine lv_iconst (v := 1) hx hb d_Pf_addEvent_77 (by decide) ?_
          refine lv_iload hx hb d_Pf_addEvent_78 (lv_at hl 4 rfl) ?_
          refine lv_ishl hx hb d_Pf_addEvent_80 ?_
          refine lv_ior hx hb d_Pf_addEvent_81 ?_
          refine na_iast (k := i) hx hb hK hP hD hS 0 0 rfl rfl (by omega) (by decide) d_Pf_addEvent_82 (fun H16 locs hPn hDn hSn => ?_)
          replace hP : va_P (dC, dI) clA [(f3, .inl (cI, 60, .inl (upd ftk2 i ((ftk2 i) ||| (1 <<< ((nI pfe) &&& 31)))))), (f6, .inl (cI, 30, .inl (upd ftr pfe (nI k)))), (f7, .inl (cL, 30, .inr (.inl (vp_updL ftn pfe x)))), (f10, .inl (cL, 30, .inr (.inl (vp_updL frk pfe y)))), (f0, .inr (2, [.int (nI pfc), .ref f1, .ref f2, .ref f3, .ref f4, .ref f5, .int (nI pfe), .ref f6, .ref f7, .ref f8, .ref f9, .ref f10, .int pfu, .int pfw])), (f2, .inl (cI, 60, .inl fmk)), (f8, .inl (cI, 30, .inl (upd fca pfe (r5 ||| (1 <<< ((nI pfe) &&& 31))))))] H16 := hPn
          replace hD : va_D A [(f3, .inl (cI, 60, .inl (upd ftk2 i ((ftk2 i) ||| (1 <<< ((nI pfe) &&& 31)))))), (f6, .inl (cI, 30, .inl (upd ftr pfe (nI k)))), (f7, .inl (cL, 30, .inr (.inl (vp_updL ftn pfe x)))), (f10, .inl (cL, 30, .inr (.inl (vp_updL frk pfe y)))), (f0, .inr (2, [.int (nI pfc), .ref f1, .ref f2, .ref f3, .ref f4, .ref f5, .int (nI pfe), .ref f6, .ref f7, .ref f8, .ref f9, .ref f10, .int pfu, .int pfw])), (f2, .inl (cI, 60, .inl fmk)), (f8, .inl (cI, 30, .inl (upd fca pfe (r5 ||| (1 <<< ((nI pfe) &&& 31))))))] := hDn
          replace hS := hSn
          clear hPn hDn hSn
          refine lv_iinc (k := 5) (v := nI (i + 1)) (lv' := [(7, .int (nI (i + 1))), (0, .ref f0), (1, .int (nI k)), (2, .long x), (4, .long y), (6, .int (nI pfe))]) hx hb d_Pf_addEvent_83 hl rfl (nI_1 _) (by decide) rfl (fun ls hln => ?_)
          replace hl : lv_has ls 8 [(7, .int (nI (i + 1))), (0, .ref f0), (1, .int (nI k)), (2, .long x), (4, .long y), (6, .int (nI pfe))] := hln
          clear hln
          refine lv_goto (tgt := 51) hx hb d_Pf_addEvent_86 (by decide) ?_
          exact hloop9_ih (i + 1) (upd ftk2 i ((ftk2 i) ||| (1 <<< ((nI pfe) &&& 31)))) (by first | assumption | omega | trivial | exact AllLt.zero | exact AllN.zero | exact AllM.zero | exact Or.inl rfl | exact Or.inr rfl) (TkE.put htk hXi (by omega)) _ _ ls (lv_sub hl [1, 2, 3, 4, 5, 0] rfl) (hP.sub [0, 1, 2, 3, 4, 5, 6] rfl) (hD.sub [0, 1, 2, 3, 4, 5, 6] (by decide) rfl) hS (by omega)
  exact hloop9 ((pfc - 0) + 1) 0 ftk (by first | assumption | omega | trivial | exact AllLt.zero | exact AllN.zero | exact AllM.zero | exact Or.inl rfl | exact Or.inr rfl) TkE.zero _ _ ls (lv_sub hl [2, 3, 4, 5, 1, 0] rfl) hP hD hS (Nat.lt_succ_self _)
