set_option maxHeartbeats 4000000 in
set_option maxRecDepth 100000 in
theorem c_NU_drop (l : Launch) (dC : Nat → ClassId) (dI : Nat → Nat → Nat) (cI cL cZ : ClassId) (sz : Nat) (x0 : Nat) (u0 : Nat) (n0 : Nat) (w0 : Nat) (w1 : Nat) (wl : Int32) (f0 : Nat) (f1 : Nat) (f2 : Nat) (f3 : Nat) (f4 : Nat) (f5 : Nat) (f6 : Nat) (f7 : Nat) (f8 : Nat) (f9 : Nat) (f10 : Nat) (pfc : Nat) (pfe : Nat) (pfu : Int32) (pfw : Int32) (fop : Nat → Int64) (q0 : Nat) : Met l y_NU_dropPrefixAndWay (Cond.code y_NU_dropPrefixAndWay prog_1_method_15_code 1 none :: wsA) { frames := 2, cells := 0, slots := 0, locals := 44 } (va_Pc [.ref x0] (fun U => U.heap.size = sz ∧ va_P (dC, dI) clA [(x0, .inr (0, [.ref n0, .ref f0, .ref w0, .ref u0, .ref q0])), (f0, .inr (2, [.int (nI pfc), .ref f1, .ref f2, .ref f3, .ref f4, .ref f5, .int (nI pfe), .ref f6, .ref f7, .ref f8, .ref f9, .ref f10, .int pfu, .int pfw])), (f5, .inl (cL, 8, .inr (.inl fop))), (w0, .inr (3, [.ref w1, .int wl]))] U.heap ∧ va_K (dC, dI) clA [(cI, .int), (cL, .long), (cZ, .boolean)] U ∧ va_D (fun _ => True) [(x0, .inr (0, [.ref n0, .ref f0, .ref w0, .ref u0, .ref q0])), (f0, .inr (2, [.int (nI pfc), .ref f1, .ref f2, .ref f3, .ref f4, .ref f5, .int (nI pfe), .ref f6, .ref f7, .ref f8, .ref f9, .ref f10, .int pfu, .int pfw])), (f5, .inl (cL, 8, .inr (.inl fop))), (w0, .inr (3, [.ref w1, .int wl]))] ∧ NwA U)) (va_Qv (fun _ : Unit => True) (fun _ t => ∃ (fop1 : Nat → Int64), va_P (dC, dI) clA [(x0, .inr (0, [.ref n0, .ref f0, .ref w0, .ref u0, .ref q0])), (f0, .inr (2, [.int 0, .ref f1, .ref f2, .ref f3, .ref f4, .ref f5, .int 0, .ref f6, .ref f7, .ref f8, .ref f9, .ref f10, .int 0, .int 0])), (f5, .inl (cL, 8, .inr (.inl fop1))), (w0, .inr (3, [.ref w1, .int (-1)]))] t.heap ∧ va_D (va_A [(x0, .inr (0, [.ref n0, .ref f0, .ref w0, .ref u0, .ref q0])), (f0, .inr (2, [.int (nI pfc), .ref f1, .ref f2, .ref f3, .ref f4, .ref f5, .int (nI pfe), .ref f6, .ref f7, .ref f8, .ref f9, .ref f10, .int pfu, .int pfw])), (f5, .inl (cL, 8, .inr (.inl fop))), (w0, .inr (3, [.ref w1, .int wl]))] sz) [(x0, .inr (0, [.ref n0, .ref f0, .ref w0, .ref u0, .ref q0])), (f0, .inr (2, [.int 0, .ref f1, .ref f2, .ref f3, .ref f4, .ref f5, .int 0, .ref f6, .ref f7, .ref f8, .ref f9, .ref f10, .int 0, .int 0])), (f5, .inl (cL, 8, .inr (.inl fop1))), (w0, .inr (3, [.ref w1, .int (-1)]))]) (va_A [(x0, .inr (0, [.ref n0, .ref f0, .ref w0, .ref u0, .ref q0])), (f0, .inr (2, [.int (nI pfc), .ref f1, .ref f2, .ref f3, .ref f4, .ref f5, .int (nI pfe), .ref f6, .ref f7, .ref f8, .ref f9, .ref f10, .int pfu, .int pfw])), (f5, .inl (cL, 8, .inr (.inl fop))), (w0, .inr (3, [.ref w1, .int wl]))] sz)) 0 0 (va_A [(x0, .inr (0, [.ref n0, .ref f0, .ref w0, .ref u0, .ref q0])), (f0, .inr (2, [.int (nI pfc), .ref f1, .ref f2, .ref f3, .ref f4, .ref f5, .int (nI pfe), .ref f6, .ref f7, .ref f8, .ref f9, .ref f10, .int pfu, .int pfw])), (f5, .inl (cL, 8, .inr (.inl fop))), (w0, .inr (3, [.ref w1, .int wl]))] sz) := by
  refine Met.ofW (cc := prog_1_method_15_code) (maxL := 1) (ret := none) (by decide) rfl ?_
  intro p e s m args below meth c s₁ B hml hv
  obtain ⟨rfl, hsz, hP, hK, hD0, hN⟩ := hv
  have hx := B.exec
  have hb := B.bytes
  have hr := B.returns
  have ht : ∀ w ∈ wsA, w.before _ s = true := fun w h => atoms_spec (ws := (Cond.code y_NU_dropPrefixAndWay prog_1_method_15_code 1 none :: wsA)) B.pre w (List.mem_cons_of_mem _ h)
  have hown : s.vm.findClass "NetUnfolder" = some m.cls := findClass_of_methodNamed B.named
  have hlocks := B.notSynchronized
  subst hsz
  have hD := hD0.self (sz := s.heap.size)
  generalize hAe : va_A [(x0, .inr (0, [.ref n0, .ref f0, .ref w0, .ref u0, .ref q0])), (f0, .inr (2, [.int (nI pfc), .ref f1, .ref f2, .ref f3, .ref f4, .ref f5, .int (nI pfe), .ref f6, .ref f7, .ref f8, .ref f9, .ref f10, .int pfu, .int pfw])), (f5, .inl (cL, 8, .inr (.inl fop))), (w0, .inr (3, [.ref w1, .int wl]))] s.heap.size = A at hD ⊢
  have hA : ∀ q : Nat, s.heap.size ≤ q → A q := fun q h => by rw [← hAe]; exact Or.inr h
  have hS : va_S A s.heap s.heap [] := va_S.rf
  have hl := lv_entry ([.ref x0]) (n := 1) (Nat.le_of_ble_eq_true rfl)
  rw [lg_entry_eq]
  generalize (lg_sl ([.ref x0]) ++ List.replicate (1 - (lg_sl ([.ref x0])).length) Slot.unset).toArray = ls at hl ⊢
  replace hl : lv_has ls 1 [(0, .ref x0)] := hl
  refine W_Q (fun Q hQ => ?_)
  refine lv_aload_n hx hb d_NU_dropPrefixAndWay_0 rfl (lv_at hl 0 rfl) ?_
  refine va_get (D := (dC, dI)) (ci := 0) (v := .ref f0) (C := "NetUnfolder") (T := T_NU) (N := 5) hx hb ht in_NU hown hK hP 0 rfl rfl 1 (by decide) (ht _ wd_2_37) (fun _ h9 => h9) rfl d_NU_dropPrefixAndWay_1 ?_
  have hPc := hP.sub (ws' := [(f0, .inr (2, [.int (nI pfc), .ref f1, .ref f2, .ref f3, .ref f4, .ref f5, .int (nI pfe), .ref f6, .ref f7, .ref f8, .ref f9, .ref f10, .int pfu, .int pfw])), (f5, .inl (cL, 8, .inr (.inl fop)))]) [1, 2] rfl
  have hDc := hD.sub (ws' := [(f0, .inr (2, [.int (nI pfc), .ref f1, .ref f2, .ref f3, .ref f4, .ref f5, .int (nI pfe), .ref f6, .ref f7, .ref f8, .ref f9, .ref f10, .int pfu, .int pfw])), (f5, .inl (cL, 8, .inr (.inl fop)))]) [1, 2] (by decide) rfl
  have hFc := va_free (wc := [(f0, .inr (2, [.int (nI pfc), .ref f1, .ref f2, .ref f3, .ref f4, .ref f5, .int (nI pfe), .ref f6, .ref f7, .ref f8, .ref f9, .ref f10, .int pfu, .int pfw])), (f5, .inl (cL, 8, .inr (.inl fop)))]) hD hS hA [1, 2] rfl
  refine va_callv (va_runV (C := "NetUnfolder$Prefix") (As := []) (rest := []) ⟨hx, hb, hml, hown, ht⟩ (c_Pf_wipe l dC dI cI cL cZ _ f0 f1 f2 f3 f4 f5 f6 f7 f8 f9 f10 pfc pfe pfu pfw fop ) (cwV 0 ht (good_V wd_2_60 wd_2_61 wd_2_62 wd_1_3 wd_2_63) rfl rfl rfl (by decide +kernel) ⟨Nat.le_of_ble_eq_true rfl, Nat.le_of_ble_eq_true rfl⟩) ⟨fun a U g mk q => by obtain ⟨q0, q1, qP, qK, qD, qN⟩ := q; exact ⟨q0, q1, qP, va_K.moved (u := U) (U := U.calling g mk a) (Vm.Alike.refl U.vm) qK, qD, NwA.same (u := U) rfl qN⟩, (va_recv (q0 := 1) (ci := 2) hK hP rfl rfl), fun U hU hW => ⟨rfl, by rw [hU], by rw [hU]; exact hPc, va_K.moved hW.alike hK, hDc.weaken (fun _ _ _ _ => trivial), NwA.warm hW hN⟩⟩ rfl rfl hl.1 rfl (lv_room (Nat.le_of_ble_eq_true rfl)) d_NU_dropPrefixAndWay_4 ⟨Nat.le_of_ble_eq_true rfl, Nat.le_of_ble_eq_true rfl⟩) hS (fun q _ h => hFc q h) hFc (fun u9 t9 H1 locs ht9 hvm hw2 hB hz1 hk1 hSn => ?_)
  obtain ⟨fop14, hP1, hD1⟩ := hB
  rw [ht9] at hP1
  obtain ⟨hPn, hDn⟩ := va_join (wr := [(x0, .inr (0, [.ref n0, .ref f0, .ref w0, .ref u0, .ref q0])), (w0, .inr (3, [.ref w1, .int wl]))]) (w1 := [(f0, .inr (2, [.int 0, .ref f1, .ref f2, .ref f3, .ref f4, .ref f5, .int 0, .ref f6, .ref f7, .ref f8, .ref f9, .ref f10, .int 0, .int 0])), (f5, .inl (cL, 8, .inr (.inl fop14)))]) hP hD [1, 2] [0, 3] rfl rfl (by decide) (by decide) hk1 hFc hP1 hD1
  replace hP : va_P (dC, dI) clA [(x0, .inr (0, [.ref n0, .ref f0, .ref w0, .ref u0, .ref q0])), (w0, .inr (3, [.ref w1, .int wl])), (f0, .inr (2, [.int 0, .ref f1, .ref f2, .ref f3, .ref f4, .ref f5, .int 0, .ref f6, .ref f7, .ref f8, .ref f9, .ref f10, .int 0, .int 0])), (f5, .inl (cL, 8, .inr (.inl fop14)))] H1 := hPn
  replace hD : va_D A [(x0, .inr (0, [.ref n0, .ref f0, .ref w0, .ref u0, .ref q0])), (w0, .inr (3, [.ref w1, .int wl])), (f0, .inr (2, [.int 0, .ref f1, .ref f2, .ref f3, .ref f4, .ref f5, .int 0, .ref f6, .ref f7, .ref f8, .ref f9, .ref f10, .int 0, .int 0])), (f5, .inl (cL, 8, .inr (.inl fop14)))] := hDn
  replace hS := hSn
  clear hPn hDn hSn
  clear hPc hDc hFc hP1 hD1 hk1 hz1 ht9 hvm
  refine W.cs (cells' := 0) (slots' := 0) rfl rfl ?_
  refine lv_aload_n hx hb d_NU_dropPrefixAndWay_7 rfl (lv_at hl 0 rfl) ?_
  refine va_get (D := (dC, dI)) (ci := 0) (v := .ref w0) (C := "NetUnfolder") (T := T_NU) (N := 5) hx hb ht in_NU hown hK hP 0 rfl rfl 2 (by decide) (ht _ wd_2_38) (fun _ h9 => h9) rfl d_NU_dropPrefixAndWay_8 ?_
  have hPc := hP.sub (ws' := [(w0, .inr (3, [.ref w1, .int wl]))]) [1] rfl
  have hDc := hD.sub (ws' := [(w0, .inr (3, [.ref w1, .int wl]))]) [1] (by decide) rfl
  have hFc := va_free (wc := [(w0, .inr (3, [.ref w1, .int wl]))]) hD hS hA [1] rfl
  refine va_callv (va_runV (C := "NetUnfolder$Way") (As := []) (rest := []) ⟨hx, hb, hml, hown, ht⟩ (c_Wa_drop l dC dI cI cL cZ _ w0 w1 wl ) (cwV 0 ht (good_V wd_2_67 wd_2_68 wd_2_69 wd_1_4 wd_2_70) rfl rfl rfl (by decide +kernel) ⟨Nat.le_of_ble_eq_true rfl, Nat.le_of_ble_eq_true rfl⟩) ⟨fun a U g mk q => by obtain ⟨q0, q1, qP, qK, qD, qN⟩ := q; exact ⟨q0, q1, qP, va_K.moved (u := U) (U := U.calling g mk a) (Vm.Alike.refl U.vm) qK, qD, NwA.same (u := U) rfl qN⟩, (va_recv (q0 := 1) (ci := 3) hK hP rfl rfl), fun U hU hW => ⟨rfl, by rw [hU], by rw [hU]; exact hPc, va_K.moved hW.alike hK, hDc.weaken (fun _ _ _ _ => trivial), NwA.warm hW hN⟩⟩ rfl rfl hl.1 rfl (lv_room (Nat.le_of_ble_eq_true rfl)) d_NU_dropPrefixAndWay_11 ⟨Nat.le_of_ble_eq_true rfl, Nat.le_of_ble_eq_true rfl⟩) hS (fun q _ h => hFc q h) hFc (fun u9 t9 H5 locs ht9 hvm hw6 hB hz1 hk1 hSn => ?_)
  obtain ⟨hP1, hD1⟩ := hB
  rw [ht9] at hP1
  obtain ⟨hPn, hDn⟩ := va_join (wr := [(x0, .inr (0, [.ref n0, .ref f0, .ref w0, .ref u0, .ref q0])), (f0, .inr (2, [.int 0, .ref f1, .ref f2, .ref f3, .ref f4, .ref f5, .int 0, .ref f6, .ref f7, .ref f8, .ref f9, .ref f10, .int 0, .int 0])), (f5, .inl (cL, 8, .inr (.inl fop14)))]) (w1 := [(w0, .inr (3, [.ref w1, .int (-1)]))]) hP hD [1] [0, 2, 3] rfl rfl (by decide) (by decide) hk1 hFc hP1 hD1
  replace hP : va_P (dC, dI) clA [(x0, .inr (0, [.ref n0, .ref f0, .ref w0, .ref u0, .ref q0])), (f0, .inr (2, [.int 0, .ref f1, .ref f2, .ref f3, .ref f4, .ref f5, .int 0, .ref f6, .ref f7, .ref f8, .ref f9, .ref f10, .int 0, .int 0])), (f5, .inl (cL, 8, .inr (.inl fop14))), (w0, .inr (3, [.ref w1, .int (-1)]))] H5 := hPn
  replace hD : va_D A [(x0, .inr (0, [.ref n0, .ref f0, .ref w0, .ref u0, .ref q0])), (f0, .inr (2, [.int 0, .ref f1, .ref f2, .ref f3, .ref f4, .ref f5, .int 0, .ref f6, .ref f7, .ref f8, .ref f9, .ref f10, .int 0, .int 0])), (f5, .inl (cL, 8, .inr (.inl fop14))), (w0, .inr (3, [.ref w1, .int (-1)]))] := hDn
  replace hS := hSn
  clear hPn hDn hSn
  clear hPc hDc hFc hP1 hD1 hk1 hz1 ht9 hvm
  refine W.cs (cells' := 0) (slots' := 0) rfl rfl ?_
  have hP9 := hP.sub (ws' := [(x0, .inr (0, [.ref n0, .ref f0, .ref w0, .ref u0, .ref q0])), (f0, .inr (2, [.int 0, .ref f1, .ref f2, .ref f3, .ref f4, .ref f5, .int 0, .ref f6, .ref f7, .ref f8, .ref f9, .ref f10, .int 0, .int 0])), (f5, .inl (cL, 8, .inr (.inl fop14))), (w0, .inr (3, [.ref w1, .int (-1)]))]) [0, 1, 2, 3] rfl
  have hD9 := hD.sub (ws' := [(x0, .inr (0, [.ref n0, .ref f0, .ref w0, .ref u0, .ref q0])), (f0, .inr (2, [.int 0, .ref f1, .ref f2, .ref f3, .ref f4, .ref f5, .int 0, .ref f6, .ref f7, .ref f8, .ref f9, .ref f10, .int 0, .int 0])), (f5, .inl (cL, 8, .inr (.inl fop14))), (w0, .inr (3, [.ref w1, .int (-1)]))]) [0, 1, 2, 3] (by decide) rfl
  subst hQ
  exact W.vret hx hb hr (fun t9 ht9 hW => ⟨⟨(), rfl, trivial, fop14, by rw [ht9]; exact hP9, hD9⟩, hS.F ht9⟩) hS.2.2 d_NU_dropPrefixAndWay_14

set_option maxHeartbeats 4000000 in
set_option maxRecDepth 100000 in
theorem c_NU_first_ok (l : Launch) (dC : Nat → ClassId) (dI : Nat → Nat → Nat) (cI cL cZ : ClassId) (sz : Nat) (x0 : Nat) (u0 : Nat) (n0 : Nat) (n1 : Nat) (n2 : Nat) (nz : Nat) (nf : Int32) (w0 : Nat) (w1 : Nat) (wl : Int32) (f0 : Nat) (f1 : Nat) (f2 : Nat) (f3 : Nat) (f4 : Nat) (f5 : Nat) (f6 : Nat) (f7 : Nat) (f8 : Nat) (f9 : Nat) (f10 : Nat) (pfc : Nat) (pfe : Nat) (pfu : Int32) (pfw : Int32) (fop : Nat → Int64) (q0 : Nat) (x : Int32) (hmv : ¬ isMv x = 0) : Met l y_NU_first (Cond.code y_NU_first prog_1_method_3_code 2 none :: wsA) { frames := 3, cells := 0, slots := 0, locals := 64 } (va_Pc [.ref x0, .int x] (fun U => U.heap.size = sz ∧ va_P (dC, dI) clA [(x0, .inr (0, [.ref n0, .ref f0, .ref w0, .ref u0, .ref q0])), (n0, .inr (1, [.ref n1, .ref n2, .int (nI nz), .int nf])), (f0, .inr (2, [.int (nI pfc), .ref f1, .ref f2, .ref f3, .ref f4, .ref f5, .int (nI pfe), .ref f6, .ref f7, .ref f8, .ref f9, .ref f10, .int pfu, .int pfw])), (f5, .inl (cL, 8, .inr (.inl fop))), (w0, .inr (3, [.ref w1, .int wl]))] U.heap ∧ va_K (dC, dI) clA [(cI, .int), (cL, .long), (cZ, .boolean)] U ∧ va_D (fun _ => True) [(x0, .inr (0, [.ref n0, .ref f0, .ref w0, .ref u0, .ref q0])), (n0, .inr (1, [.ref n1, .ref n2, .int (nI nz), .int nf])), (f0, .inr (2, [.int (nI pfc), .ref f1, .ref f2, .ref f3, .ref f4, .ref f5, .int (nI pfe), .ref f6, .ref f7, .ref f8, .ref f9, .ref f10, .int pfu, .int pfw])), (f5, .inl (cL, 8, .inr (.inl fop))), (w0, .inr (3, [.ref w1, .int wl]))] ∧ NwA U)) (va_Qv (fun _ : Unit => True) (fun _ t => ∃ (fop1 : Nat → Int64), va_P (dC, dI) clA [(x0, .inr (0, [.ref n0, .ref f0, .ref w0, .ref u0, .ref q0])), (n0, .inr (1, [.ref n1, .ref n2, .int (nI nz), .int x])), (f0, .inr (2, [.int 0, .ref f1, .ref f2, .ref f3, .ref f4, .ref f5, .int 0, .ref f6, .ref f7, .ref f8, .ref f9, .ref f10, .int 0, .int 0])), (f5, .inl (cL, 8, .inr (.inl fop1))), (w0, .inr (3, [.ref w1, .int (-1)]))] t.heap ∧ va_D (va_A [(x0, .inr (0, [.ref n0, .ref f0, .ref w0, .ref u0, .ref q0])), (n0, .inr (1, [.ref n1, .ref n2, .int (nI nz), .int nf])), (f0, .inr (2, [.int (nI pfc), .ref f1, .ref f2, .ref f3, .ref f4, .ref f5, .int (nI pfe), .ref f6, .ref f7, .ref f8, .ref f9, .ref f10, .int pfu, .int pfw])), (f5, .inl (cL, 8, .inr (.inl fop))), (w0, .inr (3, [.ref w1, .int wl]))] sz) [(x0, .inr (0, [.ref n0, .ref f0, .ref w0, .ref u0, .ref q0])), (n0, .inr (1, [.ref n1, .ref n2, .int (nI nz), .int x])), (f0, .inr (2, [.int 0, .ref f1, .ref f2, .ref f3, .ref f4, .ref f5, .int 0, .ref f6, .ref f7, .ref f8, .ref f9, .ref f10, .int 0, .int 0])), (f5, .inl (cL, 8, .inr (.inl fop1))), (w0, .inr (3, [.ref w1, .int (-1)]))]) (va_A [(x0, .inr (0, [.ref n0, .ref f0, .ref w0, .ref u0, .ref q0])), (n0, .inr (1, [.ref n1, .ref n2, .int (nI nz), .int nf])), (f0, .inr (2, [.int (nI pfc), .ref f1, .ref f2, .ref f3, .ref f4, .ref f5, .int (nI pfe), .ref f6, .ref f7, .ref f8, .ref f9, .ref f10, .int pfu, .int pfw])), (f5, .inl (cL, 8, .inr (.inl fop))), (w0, .inr (3, [.ref w1, .int wl]))] sz)) 0 0 (va_A [(x0, .inr (0, [.ref n0, .ref f0, .ref w0, .ref u0, .ref q0])), (n0, .inr (1, [.ref n1, .ref n2, .int (nI nz), .int nf])), (f0, .inr (2, [.int (nI pfc), .ref f1, .ref f2, .ref f3, .ref f4, .ref f5, .int (nI pfe), .ref f6, .ref f7, .ref f8, .ref f9, .ref f10, .int pfu, .int pfw])), (f5, .inl (cL, 8, .inr (.inl fop))), (w0, .inr (3, [.ref w1, .int wl]))] sz) := by
  refine Met.ofW (cc := prog_1_method_3_code) (maxL := 2) (ret := none) (by decide) rfl ?_
  intro p e s m args below meth c s₁ B hml hv
  obtain ⟨rfl, hsz, hP, hK, hD0, hN⟩ := hv
  have hx := B.exec
  have hb := B.bytes
  have hr := B.returns
  have ht : ∀ w ∈ wsA, w.before _ s = true := fun w h => atoms_spec (ws := (Cond.code y_NU_first prog_1_method_3_code 2 none :: wsA)) B.pre w (List.mem_cons_of_mem _ h)
  have hown : s.vm.findClass "NetUnfolder" = some m.cls := findClass_of_methodNamed B.named
  have hlocks := B.notSynchronized
  subst hsz
  have hD := hD0.self (sz := s.heap.size)
  generalize hAe : va_A [(x0, .inr (0, [.ref n0, .ref f0, .ref w0, .ref u0, .ref q0])), (n0, .inr (1, [.ref n1, .ref n2, .int (nI nz), .int nf])), (f0, .inr (2, [.int (nI pfc), .ref f1, .ref f2, .ref f3, .ref f4, .ref f5, .int (nI pfe), .ref f6, .ref f7, .ref f8, .ref f9, .ref f10, .int pfu, .int pfw])), (f5, .inl (cL, 8, .inr (.inl fop))), (w0, .inr (3, [.ref w1, .int wl]))] s.heap.size = A at hD ⊢
  have hA : ∀ q : Nat, s.heap.size ≤ q → A q := fun q h => by rw [← hAe]; exact Or.inr h
  have hS : va_S A s.heap s.heap [] := va_S.rf
  have hl := lv_entry ([.ref x0, .int x]) (n := 2) (Nat.le_of_ble_eq_true rfl)
  rw [lg_entry_eq]
  generalize (lg_sl ([.ref x0, .int x]) ++ List.replicate (2 - (lg_sl ([.ref x0, .int x])).length) Slot.unset).toArray = ls at hl ⊢
  replace hl : lv_has ls 2 [(0, .ref x0), (1, .int x)] := hl
  refine W_Q (fun Q hQ => ?_)
  refine lv_iload_n hx hb d_NU_first_0 rfl (lv_at hl 1 rfl) ?_
  have hPc : va_P (dC, dI) clA [] _ := pu_P (H := s.heap)
  have hDc : va_D (fun _ => True) [] := pu_D
  have hFc := pu_free hS hA
  refine va_calli (va_runS (As := [.int x]) (rest := []) ⟨hx, hb, hml, hown, ht⟩ (c_NU_isMarking l dC dI cI cL cZ _ x ) (va_cwS 1 ht (good_S wd_3_10 wd_3_11 wd_1_1 wd_3_12) rfl rfl rfl (by decide +kernel) ⟨Nat.le_of_ble_eq_true rfl, Nat.le_of_ble_eq_true rfl⟩) ⟨fun a U g mk q => by obtain ⟨q0, q1, qP, qK, qD, qN⟩ := q; exact ⟨q0, q1, qP, va_K.moved (u := U) (U := U.calling g mk a) (Vm.Alike.refl U.vm) qK, qD, NwA.same (u := U) rfl qN⟩, fun U hU hW => ⟨rfl, by rw [hU], by rw [hU]; exact hPc, va_K.moved hW.alike hK, hDc.weaken (fun _ _ _ _ => trivial), NwA.warm hW hN⟩⟩ rfl rfl hl.1 rfl (lv_room (Nat.le_of_ble_eq_true rfl)) d_NU_first_1 ⟨Nat.le_of_ble_eq_true rfl, Nat.le_of_ble_eq_true rfl⟩) hS (fun q _ h => hFc q h) hFc (fun r3 u9 t9 H1 locs ht9 hvm hw2 hB hz1 hk1 hSn => ?_)
  replace hP : va_P (dC, dI) clA [(x0, .inr (0, [.ref n0, .ref f0, .ref w0, .ref u0, .ref q0])), (n0, .inr (1, [.ref n1, .ref n2, .int (nI nz), .int nf])), (f0, .inr (2, [.int (nI pfc), .ref f1, .ref f2, .ref f3, .ref f4, .ref f5, .int (nI pfe), .ref f6, .ref f7, .ref f8, .ref f9, .ref f10, .int pfu, .int pfw])), (f5, .inl (cL, 8, .inr (.inl fop))), (w0, .inr (3, [.ref w1, .int wl]))] H1 := pu_keep hP hk1
  replace hS := hSn
  clear hSn hPc hDc hFc hk1 hz1 ht9 hvm hB
  refine W.cs (cells' := 0) (slots' := 0) rfl rfl ?_
  subst hw2
  refine lv_if_ne (tgt := 15) hx hb d_NU_first_4 (by decide) (fun hb4 => ?_) (fun hb4 => ?_)
  · skip
    refine lv_aload_n hx hb d_NU_first_15 rfl (lv_at hl 0 rfl) ?_
    have hPc := hP.sub (ws' := [(x0, .inr (0, [.ref n0, .ref f0, .ref w0, .ref u0, .ref q0])), (f0, .inr (2, [.int (nI pfc), .ref f1, .ref f2, .ref f3, .ref f4, .ref f5, .int (nI pfe), .ref f6, .ref f7, .ref f8, .ref f9, .ref f10, .int pfu, .int pfw])), (f5, .inl (cL, 8, .inr (.inl fop))), (w0, .inr (3, [.ref w1, .int wl]))]) [0, 2, 3, 4] rfl
    have hDc := hD.sub (ws' := [(x0, .inr (0, [.ref n0, .ref f0, .ref w0, .ref u0, .ref q0])), (f0, .inr (2, [.int (nI pfc), .ref f1, .ref f2, .ref f3, .ref f4, .ref f5, .int (nI pfe), .ref f6, .ref f7, .ref f8, .ref f9, .ref f10, .int pfu, .int pfw])), (f5, .inl (cL, 8, .inr (.inl fop))), (w0, .inr (3, [.ref w1, .int wl]))]) [0, 2, 3, 4] (by decide) rfl
    have hFc := va_free (wc := [(x0, .inr (0, [.ref n0, .ref f0, .ref w0, .ref u0, .ref q0])), (f0, .inr (2, [.int (nI pfc), .ref f1, .ref f2, .ref f3, .ref f4, .ref f5, .int (nI pfe), .ref f6, .ref f7, .ref f8, .ref f9, .ref f10, .int pfu, .int pfw])), (f5, .inl (cL, 8, .inr (.inl fop))), (w0, .inr (3, [.ref w1, .int wl]))]) hD hS hA [0, 2, 3, 4] rfl
    refine va_callv (va_runV (C := "NetUnfolder") (As := []) (rest := []) ⟨hx, hb, hml, hown, ht⟩ (c_NU_drop l dC dI cI cL cZ _ x0 u0 n0 w0 w1 wl f0 f1 f2 f3 f4 f5 f6 f7 f8 f9 f10 pfc pfe pfu pfw fop q0 ) (cwV 0 ht (good_V wd_2_56 wd_2_58 ws_NU_dropPrefixAndWay wd_1_1 wd_2_59) rfl rfl rfl (by decide +kernel) ⟨Nat.le_of_ble_eq_true rfl, Nat.le_of_ble_eq_true rfl⟩) ⟨fun a U g mk q => by obtain ⟨q0, q1, qP, qK, qD, qN⟩ := q; exact ⟨q0, q1, qP, va_K.moved (u := U) (U := U.calling g mk a) (Vm.Alike.refl U.vm) qK, qD, NwA.same (u := U) rfl qN⟩, (va_recv (q0 := 0) (ci := 0) hK hP rfl rfl), fun U hU hW => ⟨rfl, by rw [hU], by rw [hU]; exact hPc, va_K.moved hW.alike hK, hDc.weaken (fun _ _ _ _ => trivial), NwA.warm hW hN⟩⟩ rfl rfl hl.1 rfl (lv_room (Nat.le_of_ble_eq_true rfl)) d_NU_first_16 ⟨Nat.le_of_ble_eq_true rfl, Nat.le_of_ble_eq_true rfl⟩) hS (fun q _ h => hFc q h) hFc (fun u9 t9 H5 locs ht9 hvm hw6 hB hz1 hk1 hSn => ?_)
    obtain ⟨fop18, hP1, hD1⟩ := hB
    rw [ht9] at hP1
    obtain ⟨hPn, hDn⟩ := va_join (wr := [(n0, .inr (1, [.ref n1, .ref n2, .int (nI nz), .int nf]))]) (w1 := [(x0, .inr (0, [.ref n0, .ref f0, .ref w0, .ref u0, .ref q0])), (f0, .inr (2, [.int 0, .ref f1, .ref f2, .ref f3, .ref f4, .ref f5, .int 0, .ref f6, .ref f7, .ref f8, .ref f9, .ref f10, .int 0, .int 0])), (f5, .inl (cL, 8, .inr (.inl fop18))), (w0, .inr (3, [.ref w1, .int (-1)]))]) hP hD [0, 2, 3, 4] [1] rfl rfl (by decide) (by decide) hk1 hFc hP1 hD1
    replace hP : va_P (dC, dI) clA [(n0, .inr (1, [.ref n1, .ref n2, .int (nI nz), .int nf])), (x0, .inr (0, [.ref n0, .ref f0, .ref w0, .ref u0, .ref q0])), (f0, .inr (2, [.int 0, .ref f1, .ref f2, .ref f3, .ref f4, .ref f5, .int 0, .ref f6, .ref f7, .ref f8, .ref f9, .ref f10, .int 0, .int 0])), (f5, .inl (cL, 8, .inr (.inl fop18))), (w0, .inr (3, [.ref w1, .int (-1)]))] H5 := hPn
    replace hD : va_D A [(n0, .inr (1, [.ref n1, .ref n2, .int (nI nz), .int nf])), (x0, .inr (0, [.ref n0, .ref f0, .ref w0, .ref u0, .ref q0])), (f0, .inr (2, [.int 0, .ref f1, .ref f2, .ref f3, .ref f4, .ref f5, .int 0, .ref f6, .ref f7, .ref f8, .ref f9, .ref f10, .int 0, .int 0])), (f5, .inl (cL, 8, .inr (.inl fop18))), (w0, .inr (3, [.ref w1, .int (-1)]))] := hDn
    replace hS := hSn
    clear hPn hDn hSn
    clear hPc hDc hFc hP1 hD1 hk1 hz1 ht9 hvm
    refine W.cs (cells' := 0) (slots' := 0) rfl rfl ?_
    refine lv_aload_n hx hb d_NU_first_19 rfl (lv_at hl 0 rfl) ?_
    refine va_get (D := (dC, dI)) (ci := 0) (v := .ref n0) (C := "NetUnfolder") (T := T_NU) (N := 5) hx hb ht in_NU hown hK hP 1 rfl rfl 0 (by decide) (ht _ wd_2_36) (fun _ h9 => h9) rfl d_NU_first_20 ?_
    refine lv_iload_n hx hb d_NU_first_23 rfl (lv_at hl 1 rfl) ?_
    refine va_put (D := (dC, dI)) (ci := 1) (v := .int x) (ty := .int) (C := "NetUnfolder$Net") (T := T_Ne) (N := 4) hx hb ht in_Ne ty_Ne ok_Ne nm_Ne hown hK hP hD hS 0 rfl rfl 3 (by decide) (ht _ wd_1_44) (fun _ h9 => h9) rfl (by decide +kernel) rfl rfl (Nat.le_of_ble_eq_true rfl) d_NU_first_24 (fun H9 locs hPn hDn hSn => ?_)
    replace hP : va_P (dC, dI) clA [(n0, .inr (1, [.ref n1, .ref n2, .int (nI nz), .int x])), (x0, .inr (0, [.ref n0, .ref f0, .ref w0, .ref u0, .ref q0])), (f0, .inr (2, [.int 0, .ref f1, .ref f2, .ref f3, .ref f4, .ref f5, .int 0, .ref f6, .ref f7, .ref f8, .ref f9, .ref f10, .int 0, .int 0])), (f5, .inl (cL, 8, .inr (.inl fop18))), (w0, .inr (3, [.ref w1, .int (-1)]))] H9 := hPn
    replace hD : va_D A [(n0, .inr (1, [.ref n1, .ref n2, .int (nI nz), .int x])), (x0, .inr (0, [.ref n0, .ref f0, .ref w0, .ref u0, .ref q0])), (f0, .inr (2, [.int 0, .ref f1, .ref f2, .ref f3, .ref f4, .ref f5, .int 0, .ref f6, .ref f7, .ref f8, .ref f9, .ref f10, .int 0, .int 0])), (f5, .inl (cL, 8, .inr (.inl fop18))), (w0, .inr (3, [.ref w1, .int (-1)]))] := hDn
    replace hS := hSn
    clear hPn hDn hSn
    have hP9 := hP.sub (ws' := [(x0, .inr (0, [.ref n0, .ref f0, .ref w0, .ref u0, .ref q0])), (n0, .inr (1, [.ref n1, .ref n2, .int (nI nz), .int x])), (f0, .inr (2, [.int 0, .ref f1, .ref f2, .ref f3, .ref f4, .ref f5, .int 0, .ref f6, .ref f7, .ref f8, .ref f9, .ref f10, .int 0, .int 0])), (f5, .inl (cL, 8, .inr (.inl fop18))), (w0, .inr (3, [.ref w1, .int (-1)]))]) [1, 0, 2, 3, 4] rfl
    have hD9 := hD.sub (ws' := [(x0, .inr (0, [.ref n0, .ref f0, .ref w0, .ref u0, .ref q0])), (n0, .inr (1, [.ref n1, .ref n2, .int (nI nz), .int x])), (f0, .inr (2, [.int 0, .ref f1, .ref f2, .ref f3, .ref f4, .ref f5, .int 0, .ref f6, .ref f7, .ref f8, .ref f9, .ref f10, .int 0, .int 0])), (f5, .inl (cL, 8, .inr (.inl fop18))), (w0, .inr (3, [.ref w1, .int (-1)]))]) [1, 0, 2, 3, 4] (by decide) rfl
    subst hQ
    exact W.vret hx hb hr (fun t9 ht9 hW => ⟨⟨(), rfl, trivial, fop18, by rw [ht9]; exact hP9, hD9⟩, hS.F ht9⟩) hS.2.2 d_NU_first_27
  · skip
    exact absurd hb4 hmv

set_option maxHeartbeats 4000000 in
set_option maxRecDepth 100000 in
theorem t_NU_first (l : Launch) (hfl : l.flags = flags0) (dC : Nat → ClassId) (dI : Nat → Nat → Nat) (cI cL cZ : ClassId) (sz : Nat) (x0 : Nat) (u0 : Nat) (n0 : Nat) (w0 : Nat) (f0 : Nat) (q0 : Nat) (x : Int32) (hmv : isMv x = 0) : tx_Met l y_NU_first (Cond.code y_NU_first prog_1_method_3_code 2 none :: wsA) { frames := 6, cells := 1, slots := 6, locals := 96 } (va_Pc [.ref x0, .int x] (fun U => U.heap.size = sz ∧ va_P (dC, dI) clA [(x0, .inr (0, [.ref n0, .ref f0, .ref w0, .ref u0, .ref q0]))] U.heap ∧ va_K (dC, dI) clA [(cI, .int), (cL, .long), (cZ, .boolean)] U ∧ va_D (fun _ => True) [(x0, .inr (0, [.ref n0, .ref f0, .ref w0, .ref u0, .ref q0]))] ∧ NwA U ∧ ThA (fun _ => False) U U.heap)) (tx_Q "java/lang/IllegalArgumentException") 1 6 := by
  refine tx_Met.ofW (cc := prog_1_method_3_code) (maxL := 2) (ret := none) (by decide) rfl ?_
  intro p e s m args below meth c s₁ B hml hv
  obtain ⟨rfl, hsz, hP, hK, hD0, hN, hT⟩ := hv
  have hx := B.exec
  have hb := B.bytes
  have hr := B.returns
  have ht : ∀ w ∈ wsA, w.before _ s = true := fun w h => atoms_spec (ws := (Cond.code y_NU_first prog_1_method_3_code 2 none :: wsA)) B.pre w (List.mem_cons_of_mem _ h)
  have hown : s.vm.findClass "NetUnfolder" = some m.cls := findClass_of_methodNamed B.named
  have hlocks := B.notSynchronized
  have hout := B.noHandlers (atoms_spec (ws := (Cond.code y_NU_first prog_1_method_3_code 2 none :: wsA)) B.pre _ List.mem_cons_self)
  have htr := Launch.traces_off hfl B.admits
  subst hsz
  have hD := hD0
  have hS : va_S (fun q => s.heap.size ≤ q) s.heap s.heap [] := va_S.rf
  have hA : ∀ q : Nat, s.heap.size ≤ q → (fun q => s.heap.size ≤ q) q := fun q h => h
  have hl := lv_entry ([.ref x0, .int x]) (n := 2) (Nat.le_of_ble_eq_true rfl)
  rw [lg_entry_eq]
  generalize (lg_sl ([.ref x0, .int x]) ++ List.replicate (2 - (lg_sl ([.ref x0, .int x])).length) Slot.unset).toArray = ls at hl ⊢
  replace hl : lv_has ls 2 [(0, .ref x0), (1, .int x)] := hl
  refine W_Q (fun Q hQ => ?_)
  refine lv_iload_n hx hb d_NU_first_0 rfl (lv_at hl 1 rfl) ?_
  have hPc : va_P (dC, dI) clA [] _ := pu_P (H := s.heap)
  have hDc : va_D (fun _ => True) [] := pu_D
  have hFc := pu_free hS hA
  refine va_calli (va_runS (As := [.int x]) (rest := []) ⟨hx, hb, hml, hown, ht⟩ (c_NU_isMarking l dC dI cI cL cZ _ x ) (va_cwS 1 ht (good_S wd_3_10 wd_3_11 wd_1_1 wd_3_12) rfl rfl rfl (by decide +kernel) ⟨Nat.le_of_ble_eq_true rfl, Nat.le_of_ble_eq_true rfl⟩) ⟨fun a U g mk q => by obtain ⟨q0, q1, qP, qK, qD, qN⟩ := q; exact ⟨q0, q1, qP, va_K.moved (u := U) (U := U.calling g mk a) (Vm.Alike.refl U.vm) qK, qD, NwA.same (u := U) rfl qN⟩, fun U hU hW => ⟨rfl, by rw [hU], by rw [hU]; exact hPc, va_K.moved hW.alike hK, hDc.weaken (fun _ _ _ _ => trivial), NwA.warm hW hN⟩⟩ rfl rfl hl.1 rfl (lv_room (Nat.le_of_ble_eq_true rfl)) d_NU_first_1 ⟨Nat.le_of_ble_eq_true rfl, Nat.le_of_ble_eq_true rfl⟩) hS (fun q _ h => hFc q h) hFc (fun r3 u9 t9 H1 locs ht9 hvm hw2 hB hz1 hk1 hSn => ?_)
  replace hP : va_P (dC, dI) clA [(x0, .inr (0, [.ref n0, .ref f0, .ref w0, .ref u0, .ref q0]))] H1 := pu_keep hP hk1
  replace hS := hSn
  clear hSn hPc hDc hFc hk1 hz1 ht9 hvm hB
  refine W.cs (cells' := 0) (slots' := 0) rfl rfl ?_
  subst hw2
  refine lv_if_ne (tgt := 15) hx hb d_NU_first_4 (by decide) (fun hb4 => ?_) (fun hb4 => ?_)
  · skip
    exact absurd hmv hb4
  · skip
    refine va_forget (fun q hq => hS.2.2 q hq) ?_
    refine W.newc hx hb hown (ht _ wd_3_13) (ht _ wd_3_14) (ht _ wd_1_14) (g := F0 m 7 ls []) rfl d_NU_first_7 (Nat.le_of_ble_eq_true rfl) (Nat.le_of_ble_eq_true rfl) (fun cX kX hfX hkX _ _ => ?_)
    refine W.eq (g2 := F0 m 10 ls (.ref _ :: [])) rfl ?_
    refine lv_dup hx hb d_NU_first_10 rfl ?_
    refine W.cs (cells' := 1) (slots' := 6) rfl rfl ?_
    subst hQ
    exact tx_throw0 (own := "NetUnfolder") (cls := "java/lang/IllegalArgumentException") (names := ["java/lang/RuntimeException", "java/lang/Exception"]) (ic := 52) hx hb htr hown (by decide +kernel) (by decide +kernel) (fun a ha => own_before (oa_IAE a ha) ht hT) hfX hkX (by simp) hS.1 (by rw [hml]; exact hl.1) d_NU_first_11 d_NU_first_14 hout (Nat.le_of_ble_eq_true rfl) (Nat.le_of_ble_eq_true rfl) hlocks (fun U _ h => h)

set_option maxHeartbeats 4000000 in
set_option maxRecDepth 100000 in
theorem t_NU_transition_IAE (l : Launch) (hfl : l.flags = flags0) (dC : Nat → ClassId) (dI : Nat → Nat → Nat) (cI cL cZ : ClassId) (sz : Nat) (x0 : Nat) (u0 : Nat) (n0 : Nat) (w0 : Nat) (f0 : Nat) (q0 : Nat) (x : Int32) (y : Int32) (hbad : x = 0 ∨ isMv x = 0 ∨ isMv y = 0) : tx_Met l y_NU_transition (Cond.code y_NU_transition prog_1_method_2_code 3 (some .int) :: wsA) { frames := 6, cells := 1, slots := 6, locals := 96 } (va_Pc [.ref x0, .int x, .int y] (fun U => U.heap.size = sz ∧ va_P (dC, dI) clA [(x0, .inr (0, [.ref n0, .ref f0, .ref w0, .ref u0, .ref q0]))] U.heap ∧ va_K (dC, dI) clA [(cI, .int), (cL, .long), (cZ, .boolean)] U ∧ va_D (fun _ => True) [(x0, .inr (0, [.ref n0, .ref f0, .ref w0, .ref u0, .ref q0]))] ∧ NwA U ∧ ThA (fun _ => False) U U.heap)) (tx_Q "java/lang/IllegalArgumentException") 1 6 := by
  refine tx_Met.ofW (cc := prog_1_method_2_code) (maxL := 3) (ret := (some .int)) (by decide) rfl ?_
  intro p e s m args below meth c s₁ B hml hv
  obtain ⟨rfl, hsz, hP, hK, hD0, hN, hT⟩ := hv
  have hx := B.exec
  have hb := B.bytes
  have hr := B.returns
  have ht : ∀ w ∈ wsA, w.before _ s = true := fun w h => atoms_spec (ws := (Cond.code y_NU_transition prog_1_method_2_code 3 (some .int) :: wsA)) B.pre w (List.mem_cons_of_mem _ h)
  have hown : s.vm.findClass "NetUnfolder" = some m.cls := findClass_of_methodNamed B.named
  have hlocks := B.notSynchronized
  have hout := B.noHandlers (atoms_spec (ws := (Cond.code y_NU_transition prog_1_method_2_code 3 (some .int) :: wsA)) B.pre _ List.mem_cons_self)
  have htr := Launch.traces_off hfl B.admits
  subst hsz
  have hD := hD0
  have hS : va_S (fun q => s.heap.size ≤ q) s.heap s.heap [] := va_S.rf
  have hA : ∀ q : Nat, s.heap.size ≤ q → (fun q => s.heap.size ≤ q) q := fun q h => h
  have hl := lv_entry ([.ref x0, .int x, .int y]) (n := 3) (Nat.le_of_ble_eq_true rfl)
  rw [lg_entry_eq]
  generalize (lg_sl ([.ref x0, .int x, .int y]) ++ List.replicate (3 - (lg_sl ([.ref x0, .int x, .int y])).length) Slot.unset).toArray = ls at hl ⊢
  replace hl : lv_has ls 3 [(0, .ref x0), (1, .int x), (2, .int y)] := hl
  refine W_Q (fun Q hQ => ?_)
  refine lv_iload_n hx hb d_NU_transition_0 rfl (lv_at hl 1 rfl) ?_
  refine lv_if_eq (tgt := 18) hx hb d_NU_transition_1 (by decide) (fun hb1 => ?_) (fun hb1 => ?_)
  · skip
    refine va_forget (fun q hq => hS.2.2 q hq) ?_
    refine W.newc hx hb hown (ht _ wd_3_13) (ht _ wd_3_14) (ht _ wd_1_14) (g := F0 m 18 ls []) rfl d_NU_transition_18 (Nat.le_of_ble_eq_true rfl) (Nat.le_of_ble_eq_true rfl) (fun cX kX hfX hkX _ _ => ?_)
    refine W.eq (g2 := F0 m 21 ls (.ref _ :: [])) rfl ?_
    refine lv_dup hx hb d_NU_transition_21 rfl ?_
    refine W.cs (cells' := 1) (slots' := 6) rfl rfl ?_
    subst hQ
    exact tx_throw0 (own := "NetUnfolder") (cls := "java/lang/IllegalArgumentException") (names := ["java/lang/RuntimeException", "java/lang/Exception"]) (ic := 52) hx hb htr hown (by decide +kernel) (by decide +kernel) (fun a ha => own_before (oa_IAE a ha) ht hT) hfX hkX (by simp) hS.1 (by rw [hml]; exact hl.1) d_NU_transition_22 d_NU_transition_25 hout (Nat.le_of_ble_eq_true rfl) (Nat.le_of_ble_eq_true rfl) hlocks (fun U _ h => h)
  · skip
    refine lv_iload_n hx hb d_NU_transition_4 rfl (lv_at hl 1 rfl) ?_
    have hPc : va_P (dC, dI) clA [] _ := pu_P (H := s.heap)
    have hDc : va_D (fun _ => True) [] := pu_D
    have hFc := pu_free hS hA
    refine va_calli (va_runS (As := [.int x]) (rest := []) ⟨hx, hb, hml, hown, ht⟩ (c_NU_isMarking l dC dI cI cL cZ _ x ) (va_cwS 1 ht (good_S wd_3_10 wd_3_11 wd_1_1 wd_3_12) rfl rfl rfl (by decide +kernel) ⟨Nat.le_of_ble_eq_true rfl, Nat.le_of_ble_eq_true rfl⟩) ⟨fun a U g mk q => by obtain ⟨q0, q1, qP, qK, qD, qN⟩ := q; exact ⟨q0, q1, qP, va_K.moved (u := U) (U := U.calling g mk a) (Vm.Alike.refl U.vm) qK, qD, NwA.same (u := U) rfl qN⟩, fun U hU hW => ⟨rfl, by rw [hU], by rw [hU]; exact hPc, va_K.moved hW.alike hK, hDc.weaken (fun _ _ _ _ => trivial), NwA.warm hW hN⟩⟩ rfl rfl hl.1 rfl (lv_room (Nat.le_of_ble_eq_true rfl)) d_NU_transition_5 ⟨Nat.le_of_ble_eq_true rfl, Nat.le_of_ble_eq_true rfl⟩) hS (fun q _ h => hFc q h) hFc (fun r4 u9 t9 H2 locs ht9 hvm hw3 hB hz1 hk1 hSn => ?_)
    replace hP : va_P (dC, dI) clA [(x0, .inr (0, [.ref n0, .ref f0, .ref w0, .ref u0, .ref q0]))] H2 := pu_keep hP hk1
    replace hS := hSn
    clear hSn hPc hDc hFc hk1 hz1 ht9 hvm hB
    refine W.cs (cells' := 0) (slots' := 0) rfl rfl ?_
    subst hw3
    refine lv_if_eq (tgt := 18) hx hb d_NU_transition_8 (by decide) (fun hb5 => ?_) (fun hb5 => ?_)
    · skip
      refine va_forget (fun q hq => hS.2.2 q hq) ?_
      refine W.newc hx hb hown (ht _ wd_3_13) (ht _ wd_3_14) (ht _ wd_1_14) (g := F0 m 18 ls []) rfl d_NU_transition_18 (Nat.le_of_ble_eq_true rfl) (Nat.le_of_ble_eq_true rfl) (fun cX kX hfX hkX _ _ => ?_)
      refine W.eq (g2 := F0 m 21 ls (.ref _ :: [])) rfl ?_
      refine lv_dup hx hb d_NU_transition_21 rfl ?_
      refine W.cs (cells' := 1) (slots' := 6) rfl rfl ?_
      subst hQ
      exact tx_throw0 (own := "NetUnfolder") (cls := "java/lang/IllegalArgumentException") (names := ["java/lang/RuntimeException", "java/lang/Exception"]) (ic := 52) hx hb htr hown (by decide +kernel) (by decide +kernel) (fun a ha => own_before (oa_IAE a ha) ht hT) hfX hkX (by simp) hS.1 (by rw [hml]; exact hl.1) d_NU_transition_22 d_NU_transition_25 hout (Nat.le_of_ble_eq_true rfl) (Nat.le_of_ble_eq_true rfl) hlocks (fun U _ h => h)
    · skip
      refine lv_iload_n hx hb d_NU_transition_11 rfl (lv_at hl 2 rfl) ?_
      have hPc : va_P (dC, dI) clA [] _ := pu_P (H := H2)
      have hDc : va_D (fun _ => True) [] := pu_D
      have hFc := pu_free hS hA
      refine va_calli (va_runS (As := [.int y]) (rest := []) ⟨hx, hb, hml, hown, ht⟩ (c_NU_isMarking l dC dI cI cL cZ _ y ) (va_cwS 1 ht (good_S wd_3_10 wd_3_11 wd_1_1 wd_3_12) rfl rfl rfl (by decide +kernel) ⟨Nat.le_of_ble_eq_true rfl, Nat.le_of_ble_eq_true rfl⟩) ⟨fun a U g mk q => by obtain ⟨q0, q1, qP, qK, qD, qN⟩ := q; exact ⟨q0, q1, qP, va_K.moved (u := U) (U := U.calling g mk a) (Vm.Alike.refl U.vm) qK, qD, NwA.same (u := U) rfl qN⟩, fun U hU hW => ⟨rfl, by rw [hU], by rw [hU]; exact hPc, va_K.moved hW.alike hK, hDc.weaken (fun _ _ _ _ => trivial), NwA.warm hW hN⟩⟩ rfl rfl hl.1 rfl (lv_room (Nat.le_of_ble_eq_true rfl)) d_NU_transition_12 ⟨Nat.le_of_ble_eq_true rfl, Nat.le_of_ble_eq_true rfl⟩) hS (fun q _ h => hFc q h) hFc (fun r8 u9 t9 H6 locs ht9 hvm hw7 hB hz1 hk1 hSn => ?_)
      replace hP : va_P (dC, dI) clA [(x0, .inr (0, [.ref n0, .ref f0, .ref w0, .ref u0, .ref q0]))] H6 := pu_keep hP hk1
      replace hS := hSn
      clear hSn hPc hDc hFc hk1 hz1 ht9 hvm hB
      refine W.cs (cells' := 0) (slots' := 0) rfl rfl ?_
      subst hw7
      refine lv_if_ne (tgt := 26) hx hb d_NU_transition_15 (by decide) (fun hb9 => ?_) (fun hb9 => ?_)
      · skip
        exact (hbad.elim hb1 (fun q => q.elim hb5 hb9)).elim
      · skip
        refine va_forget (fun q hq => hS.2.2 q hq) ?_
        refine W.newc hx hb hown (ht _ wd_3_13) (ht _ wd_3_14) (ht _ wd_1_14) (g := F0 m 18 ls []) rfl d_NU_transition_18 (Nat.le_of_ble_eq_true rfl) (Nat.le_of_ble_eq_true rfl) (fun cX kX hfX hkX _ _ => ?_)
        refine W.eq (g2 := F0 m 21 ls (.ref _ :: [])) rfl ?_
        refine lv_dup hx hb d_NU_transition_21 rfl ?_
        refine W.cs (cells' := 1) (slots' := 6) rfl rfl ?_
        subst hQ
        exact tx_throw0 (own := "NetUnfolder") (cls := "java/lang/IllegalArgumentException") (names := ["java/lang/RuntimeException", "java/lang/Exception"]) (ic := 52) hx hb htr hown (by decide +kernel) (by decide +kernel) (fun a ha => own_before (oa_IAE a ha) ht hT) hfX hkX (by simp) hS.1 (by rw [hml]; exact hl.1) d_NU_transition_22 d_NU_transition_25 hout (Nat.le_of_ble_eq_true rfl) (Nat.le_of_ble_eq_true rfl) hlocks (fun U _ h => h)

set_option maxHeartbeats 4000000 in
set_option maxRecDepth 100000 in
theorem t_NU_transition_ISE (l : Launch) (hfl : l.flags = flags0) (dC : Nat → ClassId) (dI : Nat → Nat → Nat) (cI cL cZ : ClassId) (sz : Nat) (x0 : Nat) (u0 : Nat) (n0 : Nat) (n1 : Nat) (n2 : Nat) (nz : Nat) (nf : Int32) (w0 : Nat) (f0 : Nat) (q0 : Nat) (x : Int32) (y : Int32) (hx0 : ¬ x = 0) (hmv : ¬ isMv x = 0) (hmw : ¬ isMv y = 0) (hnz : nz = 8) : tx_Met l y_NU_transition (Cond.code y_NU_transition prog_1_method_2_code 3 (some .int) :: wsA) { frames := 6, cells := 1, slots := 6, locals := 96 } (va_Pc [.ref x0, .int x, .int y] (fun U => U.heap.size = sz ∧ va_P (dC, dI) clA [(x0, .inr (0, [.ref n0, .ref f0, .ref w0, .ref u0, .ref q0])), (n0, .inr (1, [.ref n1, .ref n2, .int (nI nz), .int nf]))] U.heap ∧ va_K (dC, dI) clA [(cI, .int), (cL, .long), (cZ, .boolean)] U ∧ va_D (fun _ => True) [(x0, .inr (0, [.ref n0, .ref f0, .ref w0, .ref u0, .ref q0])), (n0, .inr (1, [.ref n1, .ref n2, .int (nI nz), .int nf]))] ∧ NwA U ∧ ThA (fun _ => False) U U.heap)) (tx_Q "java/lang/IllegalStateException") 1 6 := by
  refine tx_Met.ofW (cc := prog_1_method_2_code) (maxL := 3) (ret := (some .int)) (by decide) rfl ?_
  intro p e s m args below meth c s₁ B hml hv
  obtain ⟨rfl, hsz, hP, hK, hD0, hN, hT⟩ := hv
  have hx := B.exec
  have hb := B.bytes
  have hr := B.returns
  have ht : ∀ w ∈ wsA, w.before _ s = true := fun w h => atoms_spec (ws := (Cond.code y_NU_transition prog_1_method_2_code 3 (some .int) :: wsA)) B.pre w (List.mem_cons_of_mem _ h)
  have hown : s.vm.findClass "NetUnfolder" = some m.cls := findClass_of_methodNamed B.named
  have hlocks := B.notSynchronized
  have hout := B.noHandlers (atoms_spec (ws := (Cond.code y_NU_transition prog_1_method_2_code 3 (some .int) :: wsA)) B.pre _ List.mem_cons_self)
  have htr := Launch.traces_off hfl B.admits
  subst hsz
  have hD := hD0
  have hS : va_S (fun q => s.heap.size ≤ q) s.heap s.heap [] := va_S.rf
  have hA : ∀ q : Nat, s.heap.size ≤ q → (fun q => s.heap.size ≤ q) q := fun q h => h
  have hl := lv_entry ([.ref x0, .int x, .int y]) (n := 3) (Nat.le_of_ble_eq_true rfl)
  rw [lg_entry_eq]
  generalize (lg_sl ([.ref x0, .int x, .int y]) ++ List.replicate (3 - (lg_sl ([.ref x0, .int x, .int y])).length) Slot.unset).toArray = ls at hl ⊢
  replace hl : lv_has ls 3 [(0, .ref x0), (1, .int x), (2, .int y)] := hl
  refine W_Q (fun Q hQ => ?_)
  refine lv_iload_n hx hb d_NU_transition_0 rfl (lv_at hl 1 rfl) ?_
  refine lv_if_eq (tgt := 18) hx hb d_NU_transition_1 (by decide) (fun hb1 => ?_) (fun hb1 => ?_)
  · skip
    exact absurd hb1 hx0
  · skip
    refine lv_iload_n hx hb d_NU_transition_4 rfl (lv_at hl 1 rfl) ?_
    have hPc : va_P (dC, dI) clA [] _ := pu_P (H := s.heap)
    have hDc : va_D (fun _ => True) [] := pu_D
    have hFc := pu_free hS hA
    refine va_calli (va_runS (As := [.int x]) (rest := []) ⟨hx, hb, hml, hown, ht⟩ (c_NU_isMarking l dC dI cI cL cZ _ x ) (va_cwS 1 ht (good_S wd_3_10 wd_3_11 wd_1_1 wd_3_12) rfl rfl rfl (by decide +kernel) ⟨Nat.le_of_ble_eq_true rfl, Nat.le_of_ble_eq_true rfl⟩) ⟨fun a U g mk q => by obtain ⟨q0, q1, qP, qK, qD, qN⟩ := q; exact ⟨q0, q1, qP, va_K.moved (u := U) (U := U.calling g mk a) (Vm.Alike.refl U.vm) qK, qD, NwA.same (u := U) rfl qN⟩, fun U hU hW => ⟨rfl, by rw [hU], by rw [hU]; exact hPc, va_K.moved hW.alike hK, hDc.weaken (fun _ _ _ _ => trivial), NwA.warm hW hN⟩⟩ rfl rfl hl.1 rfl (lv_room (Nat.le_of_ble_eq_true rfl)) d_NU_transition_5 ⟨Nat.le_of_ble_eq_true rfl, Nat.le_of_ble_eq_true rfl⟩) hS (fun q _ h => hFc q h) hFc (fun r4 u9 t9 H2 locs ht9 hvm hw3 hB hz1 hk1 hSn => ?_)
    replace hP : va_P (dC, dI) clA [(x0, .inr (0, [.ref n0, .ref f0, .ref w0, .ref u0, .ref q0])), (n0, .inr (1, [.ref n1, .ref n2, .int (nI nz), .int nf]))] H2 := pu_keep hP hk1
    replace hS := hSn
    clear hSn hPc hDc hFc hk1 hz1 ht9 hvm hB
    refine W.cs (cells' := 0) (slots' := 0) rfl rfl ?_
    subst hw3
    refine lv_if_eq (tgt := 18) hx hb d_NU_transition_8 (by decide) (fun hb5 => ?_) (fun hb5 => ?_)
    · skip
      exact absurd hb5 hmv
    · skip
      refine lv_iload_n hx hb d_NU_transition_11 rfl (lv_at hl 2 rfl) ?_
      have hPc : va_P (dC, dI) clA [] _ := pu_P (H := H2)
      have hDc : va_D (fun _ => True) [] := pu_D
      have hFc := pu_free hS hA
      refine va_calli (va_runS (As := [.int y]) (rest := []) ⟨hx, hb, hml, hown, ht⟩ (c_NU_isMarking l dC dI cI cL cZ _ y ) (va_cwS 1 ht (good_S wd_3_10 wd_3_11 wd_1_1 wd_3_12) rfl rfl rfl (by decide +kernel) ⟨Nat.le_of_ble_eq_true rfl, Nat.le_of_ble_eq_true rfl⟩) ⟨fun a U g mk q => by obtain ⟨q0, q1, qP, qK, qD, qN⟩ := q; exact ⟨q0, q1, qP, va_K.moved (u := U) (U := U.calling g mk a) (Vm.Alike.refl U.vm) qK, qD, NwA.same (u := U) rfl qN⟩, fun U hU hW => ⟨rfl, by rw [hU], by rw [hU]; exact hPc, va_K.moved hW.alike hK, hDc.weaken (fun _ _ _ _ => trivial), NwA.warm hW hN⟩⟩ rfl rfl hl.1 rfl (lv_room (Nat.le_of_ble_eq_true rfl)) d_NU_transition_12 ⟨Nat.le_of_ble_eq_true rfl, Nat.le_of_ble_eq_true rfl⟩) hS (fun q _ h => hFc q h) hFc (fun r8 u9 t9 H6 locs ht9 hvm hw7 hB hz1 hk1 hSn => ?_)
      replace hP : va_P (dC, dI) clA [(x0, .inr (0, [.ref n0, .ref f0, .ref w0, .ref u0, .ref q0])), (n0, .inr (1, [.ref n1, .ref n2, .int (nI nz), .int nf]))] H6 := pu_keep hP hk1
      replace hS := hSn
      clear hSn hPc hDc hFc hk1 hz1 ht9 hvm hB
      refine W.cs (cells' := 0) (slots' := 0) rfl rfl ?_
      subst hw7
      refine lv_if_ne (tgt := 26) hx hb d_NU_transition_15 (by decide) (fun hb9 => ?_) (fun hb9 => ?_)
      · skip
        refine lv_aload_n hx hb d_NU_transition_26 rfl (lv_at hl 0 rfl) ?_
        refine va_get (D := (dC, dI)) (ci := 0) (v := .ref n0) (C := "NetUnfolder") (T := T_NU) (N := 5) hx hb ht in_NU hown hK hP 0 rfl rfl 0 (by decide) (ht _ wd_2_36) (fun _ h9 => h9) rfl d_NU_transition_27 ?_
        refine va_get (D := (dC, dI)) (ci := 1) (v := .int (nI nz)) (C := "NetUnfolder$Net") (T := T_Ne) (N := 4) hx hb ht in_Ne hown hK hP 1 rfl rfl 2 (by decide) (ht _ wd_1_39) (fun _ h9 => h9) rfl d_NU_transition_30 ?_
        refine lv_bipush (v := 8) hx hb d_NU_transition_33 (by decide) ?_
        refine lv_icmp_lt (tgt := 46) hx hb d_NU_transition_35 (by decide) (fun hb10 => ?_) (fun hb10 => ?_)
        · skip
          replace hb10 := cv_lt (a := nz) (b := 8) (by omega) (by omega) hb10
          exfalso; omega
        · skip
          replace hb10 := cv_nlt (a := nz) (b := 8) (by omega) (by omega) hb10
          refine va_forget (fun q hq => hS.2.2 q hq) ?_
          refine W.newc hx hb hown (ht _ wd_3_75) (ht _ wd_3_76) (ht _ wd_1_15) (g := F0 m 38 ls []) rfl d_NU_transition_38 (Nat.le_of_ble_eq_true rfl) (Nat.le_of_ble_eq_true rfl) (fun cX kX hfX hkX _ _ => ?_)
          refine W.eq (g2 := F0 m 41 ls (.ref _ :: [])) rfl ?_
          refine lv_dup hx hb d_NU_transition_41 rfl ?_
          refine W.cs (cells' := 1) (slots' := 6) rfl rfl ?_
          subst hQ
          exact tx_throw0 (own := "NetUnfolder") (cls := "java/lang/IllegalStateException") (names := ["java/lang/RuntimeException", "java/lang/Exception"]) (ic := 59) hx hb htr hown (by decide +kernel) (by decide +kernel) (fun a ha => own_before (oa_ISE a ha) ht hT) hfX hkX (by simp) hS.1 (by rw [hml]; exact hl.1) d_NU_transition_42 d_NU_transition_45 hout (Nat.le_of_ble_eq_true rfl) (Nat.le_of_ble_eq_true rfl) hlocks (fun U _ h => h)
      · skip
        exact absurd hb9 hmw

set_option maxHeartbeats 4000000 in
set_option maxRecDepth 100000 in
theorem c_NU_clear (l : Launch) (dC : Nat → ClassId) (dI : Nat → Nat → Nat) (cI cL cZ : ClassId) (sz : Nat) (x0 : Nat) (u0 : Nat) (n0 : Nat) (n1 : Nat) (n2 : Nat) (nz : Nat) (nf : Int32) (w0 : Nat) (w1 : Nat) (wl : Int32) (f0 : Nat) (f1 : Nat) (f2 : Nat) (f3 : Nat) (f4 : Nat) (f5 : Nat) (f6 : Nat) (f7 : Nat) (f8 : Nat) (f9 : Nat) (f10 : Nat) (pfc : Nat) (pfe : Nat) (pfu : Int32) (pfw : Int32) (fop : Nat → Int64) (q0 : Nat) : Met l y_NU_clear (Cond.code y_NU_clear prog_1_method_4_code 1 none :: wsA) { frames := 3, cells := 0, slots := 0, locals := 64 } (va_Pc [.ref x0] (fun U => U.heap.size = sz ∧ va_P (dC, dI) clA [(x0, .inr (0, [.ref n0, .ref f0, .ref w0, .ref u0, .ref q0])), (n0, .inr (1, [.ref n1, .ref n2, .int (nI nz), .int nf])), (f0, .inr (2, [.int (nI pfc), .ref f1, .ref f2, .ref f3, .ref f4, .ref f5, .int (nI pfe), .ref f6, .ref f7, .ref f8, .ref f9, .ref f10, .int pfu, .int pfw])), (f5, .inl (cL, 8, .inr (.inl fop))), (w0, .inr (3, [.ref w1, .int wl]))] U.heap ∧ va_K (dC, dI) clA [(cI, .int), (cL, .long), (cZ, .boolean)] U ∧ va_D (fun _ => True) [(x0, .inr (0, [.ref n0, .ref f0, .ref w0, .ref u0, .ref q0])), (n0, .inr (1, [.ref n1, .ref n2, .int (nI nz), .int nf])), (f0, .inr (2, [.int (nI pfc), .ref f1, .ref f2, .ref f3, .ref f4, .ref f5, .int (nI pfe), .ref f6, .ref f7, .ref f8, .ref f9, .ref f10, .int pfu, .int pfw])), (f5, .inl (cL, 8, .inr (.inl fop))), (w0, .inr (3, [.ref w1, .int wl]))] ∧ NwA U)) (va_Qv (fun _ : Unit => True) (fun _ t => ∃ (fop1 : Nat → Int64), va_P (dC, dI) clA [(x0, .inr (0, [.ref n0, .ref f0, .ref w0, .ref u0, .ref q0])), (n0, .inr (1, [.ref n1, .ref n2, .int 0, .int 0])), (f0, .inr (2, [.int 0, .ref f1, .ref f2, .ref f3, .ref f4, .ref f5, .int 0, .ref f6, .ref f7, .ref f8, .ref f9, .ref f10, .int 0, .int 0])), (f5, .inl (cL, 8, .inr (.inl fop1))), (w0, .inr (3, [.ref w1, .int (-1)]))] t.heap ∧ va_D (va_A [(x0, .inr (0, [.ref n0, .ref f0, .ref w0, .ref u0, .ref q0])), (n0, .inr (1, [.ref n1, .ref n2, .int (nI nz), .int nf])), (f0, .inr (2, [.int (nI pfc), .ref f1, .ref f2, .ref f3, .ref f4, .ref f5, .int (nI pfe), .ref f6, .ref f7, .ref f8, .ref f9, .ref f10, .int pfu, .int pfw])), (f5, .inl (cL, 8, .inr (.inl fop))), (w0, .inr (3, [.ref w1, .int wl]))] sz) [(x0, .inr (0, [.ref n0, .ref f0, .ref w0, .ref u0, .ref q0])), (n0, .inr (1, [.ref n1, .ref n2, .int 0, .int 0])), (f0, .inr (2, [.int 0, .ref f1, .ref f2, .ref f3, .ref f4, .ref f5, .int 0, .ref f6, .ref f7, .ref f8, .ref f9, .ref f10, .int 0, .int 0])), (f5, .inl (cL, 8, .inr (.inl fop1))), (w0, .inr (3, [.ref w1, .int (-1)]))]) (va_A [(x0, .inr (0, [.ref n0, .ref f0, .ref w0, .ref u0, .ref q0])), (n0, .inr (1, [.ref n1, .ref n2, .int (nI nz), .int nf])), (f0, .inr (2, [.int (nI pfc), .ref f1, .ref f2, .ref f3, .ref f4, .ref f5, .int (nI pfe), .ref f6, .ref f7, .ref f8, .ref f9, .ref f10, .int pfu, .int pfw])), (f5, .inl (cL, 8, .inr (.inl fop))), (w0, .inr (3, [.ref w1, .int wl]))] sz)) 0 0 (va_A [(x0, .inr (0, [.ref n0, .ref f0, .ref w0, .ref u0, .ref q0])), (n0, .inr (1, [.ref n1, .ref n2, .int (nI nz), .int nf])), (f0, .inr (2, [.int (nI pfc), .ref f1, .ref f2, .ref f3, .ref f4, .ref f5, .int (nI pfe), .ref f6, .ref f7, .ref f8, .ref f9, .ref f10, .int pfu, .int pfw])), (f5, .inl (cL, 8, .inr (.inl fop))), (w0, .inr (3, [.ref w1, .int wl]))] sz) := by
  refine Met.ofW (cc := prog_1_method_4_code) (maxL := 1) (ret := none) (by decide) rfl ?_
  intro p e s m args below meth c s₁ B hml hv
  obtain ⟨rfl, hsz, hP, hK, hD0, hN⟩ := hv
  have hx := B.exec
  have hb := B.bytes
  have hr := B.returns
  have ht : ∀ w ∈ wsA, w.before _ s = true := fun w h => atoms_spec (ws := (Cond.code y_NU_clear prog_1_method_4_code 1 none :: wsA)) B.pre w (List.mem_cons_of_mem _ h)
  have hown : s.vm.findClass "NetUnfolder" = some m.cls := findClass_of_methodNamed B.named
  have hlocks := B.notSynchronized
  subst hsz
  have hD := hD0.self (sz := s.heap.size)
  generalize hAe : va_A [(x0, .inr (0, [.ref n0, .ref f0, .ref w0, .ref u0, .ref q0])), (n0, .inr (1, [.ref n1, .ref n2, .int (nI nz), .int nf])), (f0, .inr (2, [.int (nI pfc), .ref f1, .ref f2, .ref f3, .ref f4, .ref f5, .int (nI pfe), .ref f6, .ref f7, .ref f8, .ref f9, .ref f10, .int pfu, .int pfw])), (f5, .inl (cL, 8, .inr (.inl fop))), (w0, .inr (3, [.ref w1, .int wl]))] s.heap.size = A at hD ⊢
  have hA : ∀ q : Nat, s.heap.size ≤ q → A q := fun q h => by rw [← hAe]; exact Or.inr h
  have hS : va_S A s.heap s.heap [] := va_S.rf
  have hl := lv_entry ([.ref x0]) (n := 1) (Nat.le_of_ble_eq_true rfl)
  rw [lg_entry_eq]
  generalize (lg_sl ([.ref x0]) ++ List.replicate (1 - (lg_sl ([.ref x0])).length) Slot.unset).toArray = ls at hl ⊢
  replace hl : lv_has ls 1 [(0, .ref x0)] := hl
  refine W_Q (fun Q hQ => ?_)
  refine lv_aload_n hx hb d_NU_clear_0 rfl (lv_at hl 0 rfl) ?_
  have hPc := hP.sub (ws' := [(x0, .inr (0, [.ref n0, .ref f0, .ref w0, .ref u0, .ref q0])), (f0, .inr (2, [.int (nI pfc), .ref f1, .ref f2, .ref f3, .ref f4, .ref f5, .int (nI pfe), .ref f6, .ref f7, .ref f8, .ref f9, .ref f10, .int pfu, .int pfw])), (f5, .inl (cL, 8, .inr (.inl fop))), (w0, .inr (3, [.ref w1, .int wl]))]) [0, 2, 3, 4] rfl
  have hDc := hD.sub (ws' := [(x0, .inr (0, [.ref n0, .ref f0, .ref w0, .ref u0, .ref q0])), (f0, .inr (2, [.int (nI pfc), .ref f1, .ref f2, .ref f3, .ref f4, .ref f5, .int (nI pfe), .ref f6, .ref f7, .ref f8, .ref f9, .ref f10, .int pfu, .int pfw])), (f5, .inl (cL, 8, .inr (.inl fop))), (w0, .inr (3, [.ref w1, .int wl]))]) [0, 2, 3, 4] (by decide) rfl
  have hFc := va_free (wc := [(x0, .inr (0, [.ref n0, .ref f0, .ref w0, .ref u0, .ref q0])), (f0, .inr (2, [.int (nI pfc), .ref f1, .ref f2, .ref f3, .ref f4, .ref f5, .int (nI pfe), .ref f6, .ref f7, .ref f8, .ref f9, .ref f10, .int pfu, .int pfw])), (f5, .inl (cL, 8, .inr (.inl fop))), (w0, .inr (3, [.ref w1, .int wl]))]) hD hS hA [0, 2, 3, 4] rfl
  refine va_callv (va_runV (C := "NetUnfolder") (As := []) (rest := []) ⟨hx, hb, hml, hown, ht⟩ (c_NU_drop l dC dI cI cL cZ _ x0 u0 n0 w0 w1 wl f0 f1 f2 f3 f4 f5 f6 f7 f8 f9 f10 pfc pfe pfu pfw fop q0 ) (cwV 0 ht (good_V wd_2_56 wd_2_58 ws_NU_dropPrefixAndWay wd_1_1 wd_2_59) rfl rfl rfl (by decide +kernel) ⟨Nat.le_of_ble_eq_true rfl, Nat.le_of_ble_eq_true rfl⟩) ⟨fun a U g mk q => by obtain ⟨q0, q1, qP, qK, qD, qN⟩ := q; exact ⟨q0, q1, qP, va_K.moved (u := U) (U := U.calling g mk a) (Vm.Alike.refl U.vm) qK, qD, NwA.same (u := U) rfl qN⟩, (va_recv (q0 := 0) (ci := 0) hK hP rfl rfl), fun U hU hW => ⟨rfl, by rw [hU], by rw [hU]; exact hPc, va_K.moved hW.alike hK, hDc.weaken (fun _ _ _ _ => trivial), NwA.warm hW hN⟩⟩ rfl rfl hl.1 rfl (lv_room (Nat.le_of_ble_eq_true rfl)) d_NU_clear_1 ⟨Nat.le_of_ble_eq_true rfl, Nat.le_of_ble_eq_true rfl⟩) hS (fun q _ h => hFc q h) hFc (fun u9 t9 H1 locs ht9 hvm hw2 hB hz1 hk1 hSn => ?_)
  obtain ⟨fop14, hP1, hD1⟩ := hB
  rw [ht9] at hP1
  obtain ⟨hPn, hDn⟩ := va_join (wr := [(n0, .inr (1, [.ref n1, .ref n2, .int (nI nz), .int nf]))]) (w1 := [(x0, .inr (0, [.ref n0, .ref f0, .ref w0, .ref u0, .ref q0])), (f0, .inr (2, [.int 0, .ref f1, .ref f2, .ref f3, .ref f4, .ref f5, .int 0, .ref f6, .ref f7, .ref f8, .ref f9, .ref f10, .int 0, .int 0])), (f5, .inl (cL, 8, .inr (.inl fop14))), (w0, .inr (3, [.ref w1, .int (-1)]))]) hP hD [0, 2, 3, 4] [1] rfl rfl (by decide) (by decide) hk1 hFc hP1 hD1
  replace hP : va_P (dC, dI) clA [(n0, .inr (1, [.ref n1, .ref n2, .int (nI nz), .int nf])), (x0, .inr (0, [.ref n0, .ref f0, .ref w0, .ref u0, .ref q0])), (f0, .inr (2, [.int 0, .ref f1, .ref f2, .ref f3, .ref f4, .ref f5, .int 0, .ref f6, .ref f7, .ref f8, .ref f9, .ref f10, .int 0, .int 0])), (f5, .inl (cL, 8, .inr (.inl fop14))), (w0, .inr (3, [.ref w1, .int (-1)]))] H1 := hPn
  replace hD : va_D A [(n0, .inr (1, [.ref n1, .ref n2, .int (nI nz), .int nf])), (x0, .inr (0, [.ref n0, .ref f0, .ref w0, .ref u0, .ref q0])), (f0, .inr (2, [.int 0, .ref f1, .ref f2, .ref f3, .ref f4, .ref f5, .int 0, .ref f6, .ref f7, .ref f8, .ref f9, .ref f10, .int 0, .int 0])), (f5, .inl (cL, 8, .inr (.inl fop14))), (w0, .inr (3, [.ref w1, .int (-1)]))] := hDn
  replace hS := hSn
  clear hPn hDn hSn
  clear hPc hDc hFc hP1 hD1 hk1 hz1 ht9 hvm
  refine W.cs (cells' := 0) (slots' := 0) rfl rfl ?_
  refine lv_aload_n hx hb d_NU_clear_4 rfl (lv_at hl 0 rfl) ?_
  refine va_get (D := (dC, dI)) (ci := 0) (v := .ref n0) (C := "NetUnfolder") (T := T_NU) (N := 5) hx hb ht in_NU hown hK hP 1 rfl rfl 0 (by decide) (ht _ wd_2_36) (fun _ h9 => h9) rfl d_NU_clear_5 ?_
  have hPc := hP.sub (ws' := [(n0, .inr (1, [.ref n1, .ref n2, .int (nI nz), .int nf]))]) [0] rfl
  have hDc := hD.sub (ws' := [(n0, .inr (1, [.ref n1, .ref n2, .int (nI nz), .int nf]))]) [0] (by decide) rfl
  have hFc := va_free (wc := [(n0, .inr (1, [.ref n1, .ref n2, .int (nI nz), .int nf]))]) hD hS hA [0] rfl
  refine va_callv (va_runV (C := "NetUnfolder$Net") (As := []) (rest := []) ⟨hx, hb, hml, hown, ht⟩ (c_Ne_wipe l dC dI cI cL cZ _ n0 n1 n2 nz nf ) (cwV 0 ht (good_V wd_2_71 wd_2_72 wd_2_73 wd_1_2 wd_2_74) rfl rfl rfl (by decide +kernel) ⟨Nat.le_of_ble_eq_true rfl, Nat.le_of_ble_eq_true rfl⟩) ⟨fun a U g mk q => by obtain ⟨q0, q1, qP, qK, qD, qN⟩ := q; exact ⟨q0, q1, qP, va_K.moved (u := U) (U := U.calling g mk a) (Vm.Alike.refl U.vm) qK, qD, NwA.same (u := U) rfl qN⟩, (va_recv (q0 := 0) (ci := 1) hK hP rfl rfl), fun U hU hW => ⟨rfl, by rw [hU], by rw [hU]; exact hPc, va_K.moved hW.alike hK, hDc.weaken (fun _ _ _ _ => trivial), NwA.warm hW hN⟩⟩ rfl rfl hl.1 rfl (lv_room (Nat.le_of_ble_eq_true rfl)) d_NU_clear_8 ⟨Nat.le_of_ble_eq_true rfl, Nat.le_of_ble_eq_true rfl⟩) hS (fun q _ h => hFc q h) hFc (fun u9 t9 H5 locs ht9 hvm hw6 hB hz1 hk1 hSn => ?_)
  obtain ⟨hP1, hD1⟩ := hB
  rw [ht9] at hP1
  obtain ⟨hPn, hDn⟩ := va_join (wr := [(x0, .inr (0, [.ref n0, .ref f0, .ref w0, .ref u0, .ref q0])), (f0, .inr (2, [.int 0, .ref f1, .ref f2, .ref f3, .ref f4, .ref f5, .int 0, .ref f6, .ref f7, .ref f8, .ref f9, .ref f10, .int 0, .int 0])), (f5, .inl (cL, 8, .inr (.inl fop14))), (w0, .inr (3, [.ref w1, .int (-1)]))]) (w1 := [(n0, .inr (1, [.ref n1, .ref n2, .int 0, .int 0]))]) hP hD [0] [1, 2, 3, 4] rfl rfl (by decide) (by decide) hk1 hFc hP1 hD1
  replace hP : va_P (dC, dI) clA [(x0, .inr (0, [.ref n0, .ref f0, .ref w0, .ref u0, .ref q0])), (f0, .inr (2, [.int 0, .ref f1, .ref f2, .ref f3, .ref f4, .ref f5, .int 0, .ref f6, .ref f7, .ref f8, .ref f9, .ref f10, .int 0, .int 0])), (f5, .inl (cL, 8, .inr (.inl fop14))), (w0, .inr (3, [.ref w1, .int (-1)])), (n0, .inr (1, [.ref n1, .ref n2, .int 0, .int 0]))] H5 := hPn
  replace hD : va_D A [(x0, .inr (0, [.ref n0, .ref f0, .ref w0, .ref u0, .ref q0])), (f0, .inr (2, [.int 0, .ref f1, .ref f2, .ref f3, .ref f4, .ref f5, .int 0, .ref f6, .ref f7, .ref f8, .ref f9, .ref f10, .int 0, .int 0])), (f5, .inl (cL, 8, .inr (.inl fop14))), (w0, .inr (3, [.ref w1, .int (-1)])), (n0, .inr (1, [.ref n1, .ref n2, .int 0, .int 0]))] := hDn
  replace hS := hSn
  clear hPn hDn hSn
  clear hPc hDc hFc hP1 hD1 hk1 hz1 ht9 hvm
  refine W.cs (cells' := 0) (slots' := 0) rfl rfl ?_
  have hP9 := hP.sub (ws' := [(x0, .inr (0, [.ref n0, .ref f0, .ref w0, .ref u0, .ref q0])), (n0, .inr (1, [.ref n1, .ref n2, .int 0, .int 0])), (f0, .inr (2, [.int 0, .ref f1, .ref f2, .ref f3, .ref f4, .ref f5, .int 0, .ref f6, .ref f7, .ref f8, .ref f9, .ref f10, .int 0, .int 0])), (f5, .inl (cL, 8, .inr (.inl fop14))), (w0, .inr (3, [.ref w1, .int (-1)]))]) [0, 4, 1, 2, 3] rfl
  have hD9 := hD.sub (ws' := [(x0, .inr (0, [.ref n0, .ref f0, .ref w0, .ref u0, .ref q0])), (n0, .inr (1, [.ref n1, .ref n2, .int 0, .int 0])), (f0, .inr (2, [.int 0, .ref f1, .ref f2, .ref f3, .ref f4, .ref f5, .int 0, .ref f6, .ref f7, .ref f8, .ref f9, .ref f10, .int 0, .int 0])), (f5, .inl (cL, 8, .inr (.inl fop14))), (w0, .inr (3, [.ref w1, .int (-1)]))]) [0, 4, 1, 2, 3] (by decide) rfl
  subst hQ
  exact W.vret hx hb hr (fun t9 ht9 hW => ⟨⟨(), rfl, trivial, fop14, by rw [ht9]; exact hP9, hD9⟩, hS.F ht9⟩) hS.2.2 d_NU_clear_11
