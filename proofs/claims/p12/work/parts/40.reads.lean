set_option maxHeartbeats 4000000 in
set_option maxRecDepth 100000 in
theorem c_NU_way (l : Launch) (dC : Nat → ClassId) (dI : Nat → Nat → Nat) (cI cL cZ : ClassId) (sz : Nat) (x0 : Nat) (u0 : Nat) (n0 : Nat) (w0 : Nat) (w1 : Nat) (wl : Int32) (wf : Nat → Int32) (f0 : Nat) (q0 : Nat) (x : Int32) (hwl : WayI wl) : Met l y_NU_way (Cond.code y_NU_way prog_1_method_8_code 2 (some .int) :: wsA) { frames := 1, cells := 0, slots := 0, locals := 21 } (va_Pc [.ref x0, .int x] (fun U => U.heap.size = sz ∧ va_P (dC, dI) clA [(x0, .inr (0, [.ref n0, .ref f0, .ref w0, .ref u0, .ref q0])), (w0, .inr (3, [.ref w1, .int wl])), (w1, .inl (cI, 31, .inl wf))] U.heap ∧ va_K (dC, dI) clA [(cI, .int), (cL, .long), (cZ, .boolean)] U ∧ va_D (fun _ => True) [(x0, .inr (0, [.ref n0, .ref f0, .ref w0, .ref u0, .ref q0])), (w0, .inr (3, [.ref w1, .int wl])), (w1, .inl (cI, 31, .inl wf))] ∧ NwA U)) (va_Qi (fun r (_ : Unit) => True) (fun _ t => va_P (dC, dI) clA [(x0, .inr (0, [.ref n0, .ref f0, .ref w0, .ref u0, .ref q0])), (w0, .inr (3, [.ref w1, .int wl])), (w1, .inl (cI, 31, .inl wf))] t.heap ∧ va_D (va_A [(x0, .inr (0, [.ref n0, .ref f0, .ref w0, .ref u0, .ref q0])), (w0, .inr (3, [.ref w1, .int wl])), (w1, .inl (cI, 31, .inl wf))] sz) [(x0, .inr (0, [.ref n0, .ref f0, .ref w0, .ref u0, .ref q0])), (w0, .inr (3, [.ref w1, .int wl])), (w1, .inl (cI, 31, .inl wf))]) (va_A [(x0, .inr (0, [.ref n0, .ref f0, .ref w0, .ref u0, .ref q0])), (w0, .inr (3, [.ref w1, .int wl])), (w1, .inl (cI, 31, .inl wf))] sz)) 0 0 (va_A [(x0, .inr (0, [.ref n0, .ref f0, .ref w0, .ref u0, .ref q0])), (w0, .inr (3, [.ref w1, .int wl])), (w1, .inl (cI, 31, .inl wf))] sz) := by
  refine Met.ofW (cc := prog_1_method_8_code) (maxL := 2) (ret := (some .int)) (by decide) rfl ?_
  intro p e s m args below meth c s₁ B hml hv
  obtain ⟨rfl, hsz, hP, hK, hD0, hN⟩ := hv
  have hx := B.exec
  have hb := B.bytes
  have hr := B.returns
  have ht : ∀ w ∈ wsA, w.before _ s = true := fun w h => atoms_spec (ws := (Cond.code y_NU_way prog_1_method_8_code 2 (some .int) :: wsA)) B.pre w (List.mem_cons_of_mem _ h)
  have hown : s.vm.findClass "NetUnfolder" = some m.cls := findClass_of_methodNamed B.named
  have hlocks := B.notSynchronized
  subst hsz
  have hD := hD0.self (sz := s.heap.size)
  generalize hAe : va_A [(x0, .inr (0, [.ref n0, .ref f0, .ref w0, .ref u0, .ref q0])), (w0, .inr (3, [.ref w1, .int wl])), (w1, .inl (cI, 31, .inl wf))] s.heap.size = A at hD ⊢
  have hA : ∀ q : Nat, s.heap.size ≤ q → A q := fun q h => by rw [← hAe]; exact Or.inr h
  have hS : va_S A s.heap s.heap [] := va_S.rf
  have hl := lv_entry ([.ref x0, .int x]) (n := 2) (Nat.le_of_ble_eq_true rfl)
  rw [lg_entry_eq]
  generalize (lg_sl ([.ref x0, .int x]) ++ List.replicate (2 - (lg_sl ([.ref x0, .int x])).length) Slot.unset).toArray = ls at hl ⊢
  replace hl : lv_has ls 2 [(0, .ref x0), (1, .int x)] := hl
  refine W_Q (fun Q hQ => ?_)
  refine lv_aload_n hx hb d_NU_way_0 rfl (lv_at hl 0 rfl) ?_
  refine va_get (D := (dC, dI)) (ci := 0) (v := .ref w0) (C := "NetUnfolder") (T := T_NU) (N := 5) hx hb ht in_NU hown hK hP 0 rfl rfl 2 (by decide) (ht _ wd_2_38) (fun _ h9 => h9) rfl d_NU_way_1 ?_
  refine lv_iload_n hx hb d_NU_way_4 rfl (lv_at hl 1 rfl) ?_
  have hPc := hP.sub (ws' := [(w0, .inr (3, [.ref w1, .int wl])), (w1, .inl (cI, 31, .inl wf))]) [1, 2] rfl
  have hDc := hD.sub (ws' := [(w0, .inr (3, [.ref w1, .int wl])), (w1, .inl (cI, 31, .inl wf))]) [1, 2] (by decide) rfl
  have hFc := va_free (wc := [(w0, .inr (3, [.ref w1, .int wl])), (w1, .inl (cI, 31, .inl wf))]) hD hS hA [1, 2] rfl
  refine va_calli (va_runV (C := "NetUnfolder$Way") (As := [.int x]) (rest := []) ⟨hx, hb, hml, hown, ht⟩ (c_Wa_step l dC dI cI cL cZ _ w0 w1 wl wf x (by first | assumption | omega | trivial | exact AllLt.zero | exact AllN.zero | exact AllM.zero | exact Or.inl rfl | exact Or.inr rfl)) (cwV 1 ht (good_V wd_2_198 wd_2_199 wd_2_200 wd_1_4 wd_2_201) rfl rfl rfl (by decide +kernel) ⟨Nat.le_of_ble_eq_true rfl, Nat.le_of_ble_eq_true rfl⟩) ⟨fun a U g mk q => by obtain ⟨q0, q1, qP, qK, qD, qN⟩ := q; exact ⟨q0, q1, qP, va_K.moved (u := U) (U := U.calling g mk a) (Vm.Alike.refl U.vm) qK, qD, NwA.same (u := U) rfl qN⟩, (va_recv (q0 := 1) (ci := 3) hK hP rfl rfl), fun U hU hW => ⟨rfl, by rw [hU], by rw [hU]; exact hPc, va_K.moved hW.alike hK, hDc.weaken (fun _ _ _ _ => trivial), NwA.warm hW hN⟩⟩ rfl rfl hl.1 rfl (lv_room (Nat.le_of_ble_eq_true rfl)) d_NU_way_5 ⟨Nat.le_of_ble_eq_true rfl, Nat.le_of_ble_eq_true rfl⟩) hS (fun q _ h => hFc q h) hFc (fun r3 u9 t9 H1 locs ht9 hvm hw2 hB hz1 hk1 hSn => ?_)
  obtain ⟨hP1, hD1⟩ := hB
  rw [ht9] at hP1
  obtain ⟨hPn, hDn⟩ := va_join (wr := [(x0, .inr (0, [.ref n0, .ref f0, .ref w0, .ref u0, .ref q0]))]) (w1 := [(w0, .inr (3, [.ref w1, .int wl])), (w1, .inl (cI, 31, .inl wf))]) hP hD [1, 2] [0] rfl rfl (by decide) (by decide) hk1 hFc hP1 hD1
  replace hP : va_P (dC, dI) clA [(x0, .inr (0, [.ref n0, .ref f0, .ref w0, .ref u0, .ref q0])), (w0, .inr (3, [.ref w1, .int wl])), (w1, .inl (cI, 31, .inl wf))] H1 := hPn
  replace hD : va_D A [(x0, .inr (0, [.ref n0, .ref f0, .ref w0, .ref u0, .ref q0])), (w0, .inr (3, [.ref w1, .int wl])), (w1, .inl (cI, 31, .inl wf))] := hDn
  replace hS := hSn
  clear hPn hDn hSn
  clear hPc hDc hFc hP1 hD1 hk1 hz1 ht9 hvm
  refine W.cs (cells' := 0) (slots' := 0) rfl rfl ?_
  have hP9 := hP.sub (ws' := [(x0, .inr (0, [.ref n0, .ref f0, .ref w0, .ref u0, .ref q0])), (w0, .inr (3, [.ref w1, .int wl])), (w1, .inl (cI, 31, .inl wf))]) [0, 1, 2] rfl
  have hD9 := hD.sub (ws' := [(x0, .inr (0, [.ref n0, .ref f0, .ref w0, .ref u0, .ref q0])), (w0, .inr (3, [.ref w1, .int wl])), (w1, .inl (cI, 31, .inl wf))]) [0, 1, 2] (by decide) rfl
  subst hQ
  exact W.iret (v := r3) hx hb hr (fun t9 ht9 hW => ⟨⟨r3, (), rfl, trivial, by rw [ht9]; exact hP9, hD9⟩, hS.F ht9⟩) hS.2.2 d_NU_way_8

set_option maxHeartbeats 4000000 in
set_option maxRecDepth 100000 in
theorem c_NU_count (l : Launch) (dC : Nat → ClassId) (dI : Nat → Nat → Nat) (cI cL cZ : ClassId) (sz : Nat) (x0 : Nat) (u0 : Nat) (n0 : Nat) (w0 : Nat) (w1 : Nat) (wl : Int32) (f0 : Nat) (f1 : Nat) (f2 : Nat) (f3 : Nat) (f4 : Nat) (f5 : Nat) (f6 : Nat) (f7 : Nat) (f8 : Nat) (f9 : Nat) (f10 : Nat) (pfc : Nat) (pfe : Nat) (pfu : Int32) (pfw : Int32) (q0 : Nat) (x : Int32) : Met l y_NU_count (Cond.code y_NU_count prog_1_method_10_code 2 (some .int) :: wsA) { frames := 1, cells := 0, slots := 0, locals := 20 } (va_Pc [.ref x0, .int x] (fun U => U.heap.size = sz ∧ va_P (dC, dI) clA [(x0, .inr (0, [.ref n0, .ref f0, .ref w0, .ref u0, .ref q0])), (f0, .inr (2, [.int (nI pfc), .ref f1, .ref f2, .ref f3, .ref f4, .ref f5, .int (nI pfe), .ref f6, .ref f7, .ref f8, .ref f9, .ref f10, .int pfu, .int pfw])), (w0, .inr (3, [.ref w1, .int wl]))] U.heap ∧ va_K (dC, dI) clA [(cI, .int), (cL, .long), (cZ, .boolean)] U ∧ va_D (fun _ => True) [(x0, .inr (0, [.ref n0, .ref f0, .ref w0, .ref u0, .ref q0])), (f0, .inr (2, [.int (nI pfc), .ref f1, .ref f2, .ref f3, .ref f4, .ref f5, .int (nI pfe), .ref f6, .ref f7, .ref f8, .ref f9, .ref f10, .int pfu, .int pfw])), (w0, .inr (3, [.ref w1, .int wl]))] ∧ NwA U)) (va_Qi (fun r (_ : Unit) => True) (fun _ t => va_P (dC, dI) clA [(x0, .inr (0, [.ref n0, .ref f0, .ref w0, .ref u0, .ref q0])), (f0, .inr (2, [.int (nI pfc), .ref f1, .ref f2, .ref f3, .ref f4, .ref f5, .int (nI pfe), .ref f6, .ref f7, .ref f8, .ref f9, .ref f10, .int pfu, .int pfw])), (w0, .inr (3, [.ref w1, .int wl]))] t.heap ∧ va_D (va_A [(x0, .inr (0, [.ref n0, .ref f0, .ref w0, .ref u0, .ref q0])), (f0, .inr (2, [.int (nI pfc), .ref f1, .ref f2, .ref f3, .ref f4, .ref f5, .int (nI pfe), .ref f6, .ref f7, .ref f8, .ref f9, .ref f10, .int pfu, .int pfw])), (w0, .inr (3, [.ref w1, .int wl]))] sz) [(x0, .inr (0, [.ref n0, .ref f0, .ref w0, .ref u0, .ref q0])), (f0, .inr (2, [.int (nI pfc), .ref f1, .ref f2, .ref f3, .ref f4, .ref f5, .int (nI pfe), .ref f6, .ref f7, .ref f8, .ref f9, .ref f10, .int pfu, .int pfw])), (w0, .inr (3, [.ref w1, .int wl]))]) (va_A [(x0, .inr (0, [.ref n0, .ref f0, .ref w0, .ref u0, .ref q0])), (f0, .inr (2, [.int (nI pfc), .ref f1, .ref f2, .ref f3, .ref f4, .ref f5, .int (nI pfe), .ref f6, .ref f7, .ref f8, .ref f9, .ref f10, .int pfu, .int pfw])), (w0, .inr (3, [.ref w1, .int wl]))] sz)) 0 0 (va_A [(x0, .inr (0, [.ref n0, .ref f0, .ref w0, .ref u0, .ref q0])), (f0, .inr (2, [.int (nI pfc), .ref f1, .ref f2, .ref f3, .ref f4, .ref f5, .int (nI pfe), .ref f6, .ref f7, .ref f8, .ref f9, .ref f10, .int pfu, .int pfw])), (w0, .inr (3, [.ref w1, .int wl]))] sz) := by
  refine Met.ofW (cc := prog_1_method_10_code) (maxL := 2) (ret := (some .int)) (by decide) rfl ?_
  intro p e s m args below meth c s₁ B hml hv
  obtain ⟨rfl, hsz, hP, hK, hD0, hN⟩ := hv
  have hx := B.exec
  have hb := B.bytes
  have hr := B.returns
  have ht : ∀ w ∈ wsA, w.before _ s = true := fun w h => atoms_spec (ws := (Cond.code y_NU_count prog_1_method_10_code 2 (some .int) :: wsA)) B.pre w (List.mem_cons_of_mem _ h)
  have hown : s.vm.findClass "NetUnfolder" = some m.cls := findClass_of_methodNamed B.named
  have hlocks := B.notSynchronized
  subst hsz
  have hD := hD0.self (sz := s.heap.size)
  generalize hAe : va_A [(x0, .inr (0, [.ref n0, .ref f0, .ref w0, .ref u0, .ref q0])), (f0, .inr (2, [.int (nI pfc), .ref f1, .ref f2, .ref f3, .ref f4, .ref f5, .int (nI pfe), .ref f6, .ref f7, .ref f8, .ref f9, .ref f10, .int pfu, .int pfw])), (w0, .inr (3, [.ref w1, .int wl]))] s.heap.size = A at hD ⊢
  have hA : ∀ q : Nat, s.heap.size ≤ q → A q := fun q h => by rw [← hAe]; exact Or.inr h
  have hS : va_S A s.heap s.heap [] := va_S.rf
  have hl := lv_entry ([.ref x0, .int x]) (n := 2) (Nat.le_of_ble_eq_true rfl)
  rw [lg_entry_eq]
  generalize (lg_sl ([.ref x0, .int x]) ++ List.replicate (2 - (lg_sl ([.ref x0, .int x])).length) Slot.unset).toArray = ls at hl ⊢
  replace hl : lv_has ls 2 [(0, .ref x0), (1, .int x)] := hl
  refine W_Q (fun Q hQ => ?_)
  refine lv_iload_n hx hb d_NU_count_0 rfl (lv_at hl 1 rfl) ?_
  by_cases hv1 : x = 0
  · refine lv_tableIn (off := 31) (tgt := 32) hx hb d_NU_count_1 (by rw [hv1]; decide) (by rw [hv1]; decide) (by rw [hv1]; decide) (by decide) ?_
    refine lv_aload_n hx hb d_NU_count_32 rfl (lv_at hl 0 rfl) ?_
    refine va_get (D := (dC, dI)) (ci := 0) (v := .ref f0) (C := "NetUnfolder") (T := T_NU) (N := 5) hx hb ht in_NU hown hK hP 0 rfl rfl 1 (by decide) (ht _ wd_2_37) (fun _ h9 => h9) rfl d_NU_count_33 ?_
    refine va_get (D := (dC, dI)) (ci := 2) (v := .int (nI pfe)) (C := "NetUnfolder$Prefix") (T := T_Pf) (N := 14) hx hb ht in_Pf hown hK hP 1 rfl rfl 6 (by decide) (ht _ wd_1_85) (fun _ h9 => h9) rfl d_NU_count_36 ?_
    have hP9 := hP.sub (ws' := [(x0, .inr (0, [.ref n0, .ref f0, .ref w0, .ref u0, .ref q0])), (f0, .inr (2, [.int (nI pfc), .ref f1, .ref f2, .ref f3, .ref f4, .ref f5, .int (nI pfe), .ref f6, .ref f7, .ref f8, .ref f9, .ref f10, .int pfu, .int pfw])), (w0, .inr (3, [.ref w1, .int wl]))]) [0, 1, 2] rfl
    have hD9 := hD.sub (ws' := [(x0, .inr (0, [.ref n0, .ref f0, .ref w0, .ref u0, .ref q0])), (f0, .inr (2, [.int (nI pfc), .ref f1, .ref f2, .ref f3, .ref f4, .ref f5, .int (nI pfe), .ref f6, .ref f7, .ref f8, .ref f9, .ref f10, .int pfu, .int pfw])), (w0, .inr (3, [.ref w1, .int wl]))]) [0, 1, 2] (by decide) rfl
    subst hQ
    exact W.iret (v := nI pfe) hx hb hr (fun t9 ht9 hW => ⟨⟨nI pfe, (), rfl, trivial, by rw [ht9]; exact hP9, hD9⟩, hS.F ht9⟩) hS.2.2 d_NU_count_39
  by_cases hv2 : x = 1
  · refine lv_tableIn (off := 39) (tgt := 40) hx hb d_NU_count_1 (by rw [hv2]; decide) (by rw [hv2]; decide) (by rw [hv2]; decide) (by decide) ?_
    refine lv_aload_n hx hb d_NU_count_40 rfl (lv_at hl 0 rfl) ?_
    refine va_get (D := (dC, dI)) (ci := 0) (v := .ref f0) (C := "NetUnfolder") (T := T_NU) (N := 5) hx hb ht in_NU hown hK hP 0 rfl rfl 1 (by decide) (ht _ wd_2_37) (fun _ h9 => h9) rfl d_NU_count_41 ?_
    refine va_get (D := (dC, dI)) (ci := 2) (v := .int (nI pfc)) (C := "NetUnfolder$Prefix") (T := T_Pf) (N := 14) hx hb ht in_Pf hown hK hP 1 rfl rfl 0 (by decide) (ht _ wd_1_65) (fun _ h9 => h9) rfl d_NU_count_44 ?_
    have hP9 := hP.sub (ws' := [(x0, .inr (0, [.ref n0, .ref f0, .ref w0, .ref u0, .ref q0])), (f0, .inr (2, [.int (nI pfc), .ref f1, .ref f2, .ref f3, .ref f4, .ref f5, .int (nI pfe), .ref f6, .ref f7, .ref f8, .ref f9, .ref f10, .int pfu, .int pfw])), (w0, .inr (3, [.ref w1, .int wl]))]) [0, 1, 2] rfl
    have hD9 := hD.sub (ws' := [(x0, .inr (0, [.ref n0, .ref f0, .ref w0, .ref u0, .ref q0])), (f0, .inr (2, [.int (nI pfc), .ref f1, .ref f2, .ref f3, .ref f4, .ref f5, .int (nI pfe), .ref f6, .ref f7, .ref f8, .ref f9, .ref f10, .int pfu, .int pfw])), (w0, .inr (3, [.ref w1, .int wl]))]) [0, 1, 2] (by decide) rfl
    subst hQ
    exact W.iret (v := nI pfc) hx hb hr (fun t9 ht9 hW => ⟨⟨nI pfc, (), rfl, trivial, by rw [ht9]; exact hP9, hD9⟩, hS.F ht9⟩) hS.2.2 d_NU_count_47
  by_cases hv3 : x = 2
  · refine lv_tableIn (off := 47) (tgt := 48) hx hb d_NU_count_1 (by rw [hv3]; decide) (by rw [hv3]; decide) (by rw [hv3]; decide) (by decide) ?_
    refine lv_aload_n hx hb d_NU_count_48 rfl (lv_at hl 0 rfl) ?_
    refine va_get (D := (dC, dI)) (ci := 0) (v := .ref f0) (C := "NetUnfolder") (T := T_NU) (N := 5) hx hb ht in_NU hown hK hP 0 rfl rfl 1 (by decide) (ht _ wd_2_37) (fun _ h9 => h9) rfl d_NU_count_49 ?_
    refine va_get (D := (dC, dI)) (ci := 2) (v := .int pfu) (C := "NetUnfolder$Prefix") (T := T_Pf) (N := 14) hx hb ht in_Pf hown hK hP 1 rfl rfl 12 (by decide) (ht _ wd_1_103) (fun _ h9 => h9) rfl d_NU_count_52 ?_
    have hPc : va_P (dC, dI) clA [] _ := pu_P (H := s.heap)
    have hDc : va_D (fun _ => True) [] := pu_D
    have hFc := pu_free hS hA
    refine va_calli (va_runS (As := [.int pfu]) (rest := []) ⟨hx, hb, hml, hown, ht⟩ (c_Ig_bitCount l dC dI cI cL cZ _ pfu ) (va_cwS 1 ht (good_S wd_2_206 wd_2_125 wd_1_17 wd_2_126) rfl rfl rfl (by decide +kernel) ⟨Nat.le_of_ble_eq_true rfl, Nat.le_of_ble_eq_true rfl⟩) ⟨fun a U g mk q => by obtain ⟨q0, q1, qP, qK, qD, qN⟩ := q; exact ⟨q0, q1, qP, va_K.moved (u := U) (U := U.calling g mk a) (Vm.Alike.refl U.vm) qK, qD, NwA.same (u := U) rfl qN⟩, fun U hU hW => ⟨rfl, by rw [hU], by rw [hU]; exact hPc, va_K.moved hW.alike hK, hDc.weaken (fun _ _ _ _ => trivial), NwA.warm hW hN⟩⟩ rfl rfl hl.1 rfl (lv_room (Nat.le_of_ble_eq_true rfl)) d_NU_count_55 ⟨Nat.le_of_ble_eq_true rfl, Nat.le_of_ble_eq_true rfl⟩) hS (fun q _ h => hFc q h) hFc (fun r6 u9 t9 H4 locs ht9 hvm hw5 hB hz1 hk1 hSn => ?_)
    replace hP : va_P (dC, dI) clA [(x0, .inr (0, [.ref n0, .ref f0, .ref w0, .ref u0, .ref q0])), (f0, .inr (2, [.int (nI pfc), .ref f1, .ref f2, .ref f3, .ref f4, .ref f5, .int (nI pfe), .ref f6, .ref f7, .ref f8, .ref f9, .ref f10, .int pfu, .int pfw])), (w0, .inr (3, [.ref w1, .int wl]))] H4 := pu_keep hP hk1
    replace hS := hSn
    clear hSn hPc hDc hFc hk1 hz1 ht9 hvm hB
    refine W.cs (cells' := 0) (slots' := 0) rfl rfl ?_
    have hP9 := hP.sub (ws' := [(x0, .inr (0, [.ref n0, .ref f0, .ref w0, .ref u0, .ref q0])), (f0, .inr (2, [.int (nI pfc), .ref f1, .ref f2, .ref f3, .ref f4, .ref f5, .int (nI pfe), .ref f6, .ref f7, .ref f8, .ref f9, .ref f10, .int pfu, .int pfw])), (w0, .inr (3, [.ref w1, .int wl]))]) [0, 1, 2] rfl
    have hD9 := hD.sub (ws' := [(x0, .inr (0, [.ref n0, .ref f0, .ref w0, .ref u0, .ref q0])), (f0, .inr (2, [.int (nI pfc), .ref f1, .ref f2, .ref f3, .ref f4, .ref f5, .int (nI pfe), .ref f6, .ref f7, .ref f8, .ref f9, .ref f10, .int pfu, .int pfw])), (w0, .inr (3, [.ref w1, .int wl]))]) [0, 1, 2] (by decide) rfl
    subst hQ
    exact W.iret (v := r6) hx hb hr (fun t9 ht9 hW => ⟨⟨r6, (), rfl, trivial, by rw [ht9]; exact hP9, hD9⟩, hS.F ht9⟩) hS.2.2 d_NU_count_58
  by_cases hv7 : x = 3
  · refine lv_tableIn (off := 58) (tgt := 59) hx hb d_NU_count_1 (by rw [hv7]; decide) (by rw [hv7]; decide) (by rw [hv7]; decide) (by decide) ?_
    refine lv_aload_n hx hb d_NU_count_59 rfl (lv_at hl 0 rfl) ?_
    refine va_get (D := (dC, dI)) (ci := 0) (v := .ref w0) (C := "NetUnfolder") (T := T_NU) (N := 5) hx hb ht in_NU hown hK hP 0 rfl rfl 2 (by decide) (ht _ wd_2_38) (fun _ h9 => h9) rfl d_NU_count_60 ?_
    refine va_get (D := (dC, dI)) (ci := 3) (v := .int wl) (C := "NetUnfolder$Way") (T := T_Wa) (N := 2) hx hb ht in_Wa hown hK hP 2 rfl rfl 1 (by decide) (ht _ wd_1_146) (fun _ h9 => h9) rfl d_NU_count_63 ?_
    have hP9 := hP.sub (ws' := [(x0, .inr (0, [.ref n0, .ref f0, .ref w0, .ref u0, .ref q0])), (f0, .inr (2, [.int (nI pfc), .ref f1, .ref f2, .ref f3, .ref f4, .ref f5, .int (nI pfe), .ref f6, .ref f7, .ref f8, .ref f9, .ref f10, .int pfu, .int pfw])), (w0, .inr (3, [.ref w1, .int wl]))]) [0, 1, 2] rfl
    have hD9 := hD.sub (ws' := [(x0, .inr (0, [.ref n0, .ref f0, .ref w0, .ref u0, .ref q0])), (f0, .inr (2, [.int (nI pfc), .ref f1, .ref f2, .ref f3, .ref f4, .ref f5, .int (nI pfe), .ref f6, .ref f7, .ref f8, .ref f9, .ref f10, .int pfu, .int pfw])), (w0, .inr (3, [.ref w1, .int wl]))]) [0, 1, 2] (by decide) rfl
    subst hQ
    exact W.iret (v := wl) hx hb hr (fun t9 ht9 hW => ⟨⟨wl, (), rfl, trivial, by rw [ht9]; exact hP9, hD9⟩, hS.F ht9⟩) hS.2.2 d_NU_count_66
  refine lv_tableOut (tgt := 67) hx hb d_NU_count_1 (by have ehv1 := fa_ne (k := 0) (by decide) hv1; have ehv2 := fa_ne (k := 1) (by decide) hv2; have ehv3 := fa_ne (k := 2) (by decide) hv3; have ehv7 := fa_ne (k := 3) (by decide) hv7; omega) (by decide) ?_
  refine lv_iconst (v := (-1)) hx hb d_NU_count_67 (by decide) ?_
  have hP9 := hP.sub (ws' := [(x0, .inr (0, [.ref n0, .ref f0, .ref w0, .ref u0, .ref q0])), (f0, .inr (2, [.int (nI pfc), .ref f1, .ref f2, .ref f3, .ref f4, .ref f5, .int (nI pfe), .ref f6, .ref f7, .ref f8, .ref f9, .ref f10, .int pfu, .int pfw])), (w0, .inr (3, [.ref w1, .int wl]))]) [0, 1, 2] rfl
  have hD9 := hD.sub (ws' := [(x0, .inr (0, [.ref n0, .ref f0, .ref w0, .ref u0, .ref q0])), (f0, .inr (2, [.int (nI pfc), .ref f1, .ref f2, .ref f3, .ref f4, .ref f5, .int (nI pfe), .ref f6, .ref f7, .ref f8, .ref f9, .ref f10, .int pfu, .int pfw])), (w0, .inr (3, [.ref w1, .int wl]))]) [0, 1, 2] (by decide) rfl
  subst hQ
  exact W.iret (v := (-1)) hx hb hr (fun t9 ht9 hW => ⟨⟨(-1), (), rfl, trivial, by rw [ht9]; exact hP9, hD9⟩, hS.F ht9⟩) hS.2.2 d_NU_count_68

set_option maxHeartbeats 4000000 in
set_option maxRecDepth 100000 in
theorem c_NU_event (l : Launch) (dC : Nat → ClassId) (dI : Nat → Nat → Nat) (cI cL cZ : ClassId) (sz : Nat) (x0 : Nat) (u0 : Nat) (n0 : Nat) (w0 : Nat) (f0 : Nat) (f1 : Nat) (f2 : Nat) (f3 : Nat) (f4 : Nat) (f5 : Nat) (f6 : Nat) (f7 : Nat) (f8 : Nat) (f9 : Nat) (f10 : Nat) (pfc : Nat) (pfe : Nat) (pfu : Int32) (pfw : Int32) (ftr : Nat → Int32) (fca : Nat → Int32) (fma : Nat → Int32) (q0 : Nat) (x : Int32) (y : Int32) (hpe : pfe ≤ 30) : Met l y_NU_event (Cond.code y_NU_event prog_1_method_11_code 3 (some .int) :: wsA) { frames := 2, cells := 0, slots := 0, locals := 43 } (va_Pc [.ref x0, .int x, .int y] (fun U => U.heap.size = sz ∧ va_P (dC, dI) clA [(x0, .inr (0, [.ref n0, .ref f0, .ref w0, .ref u0, .ref q0])), (f0, .inr (2, [.int (nI pfc), .ref f1, .ref f2, .ref f3, .ref f4, .ref f5, .int (nI pfe), .ref f6, .ref f7, .ref f8, .ref f9, .ref f10, .int pfu, .int pfw])), (f6, .inl (cI, 30, .inl ftr)), (f8, .inl (cI, 30, .inl fca)), (f9, .inl (cI, 30, .inl fma))] U.heap ∧ va_K (dC, dI) clA [(cI, .int), (cL, .long), (cZ, .boolean)] U ∧ va_D (fun _ => True) [(x0, .inr (0, [.ref n0, .ref f0, .ref w0, .ref u0, .ref q0])), (f0, .inr (2, [.int (nI pfc), .ref f1, .ref f2, .ref f3, .ref f4, .ref f5, .int (nI pfe), .ref f6, .ref f7, .ref f8, .ref f9, .ref f10, .int pfu, .int pfw])), (f6, .inl (cI, 30, .inl ftr)), (f8, .inl (cI, 30, .inl fca)), (f9, .inl (cI, 30, .inl fma))] ∧ NwA U)) (va_Qi (fun r (_ : Unit) => True) (fun _ t => va_P (dC, dI) clA [(x0, .inr (0, [.ref n0, .ref f0, .ref w0, .ref u0, .ref q0])), (f0, .inr (2, [.int (nI pfc), .ref f1, .ref f2, .ref f3, .ref f4, .ref f5, .int (nI pfe), .ref f6, .ref f7, .ref f8, .ref f9, .ref f10, .int pfu, .int pfw])), (f6, .inl (cI, 30, .inl ftr)), (f8, .inl (cI, 30, .inl fca)), (f9, .inl (cI, 30, .inl fma))] t.heap ∧ va_D (va_A [(x0, .inr (0, [.ref n0, .ref f0, .ref w0, .ref u0, .ref q0])), (f0, .inr (2, [.int (nI pfc), .ref f1, .ref f2, .ref f3, .ref f4, .ref f5, .int (nI pfe), .ref f6, .ref f7, .ref f8, .ref f9, .ref f10, .int pfu, .int pfw])), (f6, .inl (cI, 30, .inl ftr)), (f8, .inl (cI, 30, .inl fca)), (f9, .inl (cI, 30, .inl fma))] sz) [(x0, .inr (0, [.ref n0, .ref f0, .ref w0, .ref u0, .ref q0])), (f0, .inr (2, [.int (nI pfc), .ref f1, .ref f2, .ref f3, .ref f4, .ref f5, .int (nI pfe), .ref f6, .ref f7, .ref f8, .ref f9, .ref f10, .int pfu, .int pfw])), (f6, .inl (cI, 30, .inl ftr)), (f8, .inl (cI, 30, .inl fca)), (f9, .inl (cI, 30, .inl fma))]) (va_A [(x0, .inr (0, [.ref n0, .ref f0, .ref w0, .ref u0, .ref q0])), (f0, .inr (2, [.int (nI pfc), .ref f1, .ref f2, .ref f3, .ref f4, .ref f5, .int (nI pfe), .ref f6, .ref f7, .ref f8, .ref f9, .ref f10, .int pfu, .int pfw])), (f6, .inl (cI, 30, .inl ftr)), (f8, .inl (cI, 30, .inl fca)), (f9, .inl (cI, 30, .inl fma))] sz)) 0 0 (va_A [(x0, .inr (0, [.ref n0, .ref f0, .ref w0, .ref u0, .ref q0])), (f0, .inr (2, [.int (nI pfc), .ref f1, .ref f2, .ref f3, .ref f4, .ref f5, .int (nI pfe), .ref f6, .ref f7, .ref f8, .ref f9, .ref f10, .int pfu, .int pfw])), (f6, .inl (cI, 30, .inl ftr)), (f8, .inl (cI, 30, .inl fca)), (f9, .inl (cI, 30, .inl fma))] sz) := by
  refine Met.ofW (cc := prog_1_method_11_code) (maxL := 3) (ret := (some .int)) (by decide) rfl ?_
  intro p e s m args below meth c s₁ B hml hv
  obtain ⟨rfl, hsz, hP, hK, hD0, hN⟩ := hv
  have hx := B.exec
  have hb := B.bytes
  have hr := B.returns
  have ht : ∀ w ∈ wsA, w.before _ s = true := fun w h => atoms_spec (ws := (Cond.code y_NU_event prog_1_method_11_code 3 (some .int) :: wsA)) B.pre w (List.mem_cons_of_mem _ h)
  have hown : s.vm.findClass "NetUnfolder" = some m.cls := findClass_of_methodNamed B.named
  have hlocks := B.notSynchronized
  subst hsz
  have hD := hD0.self (sz := s.heap.size)
  generalize hAe : va_A [(x0, .inr (0, [.ref n0, .ref f0, .ref w0, .ref u0, .ref q0])), (f0, .inr (2, [.int (nI pfc), .ref f1, .ref f2, .ref f3, .ref f4, .ref f5, .int (nI pfe), .ref f6, .ref f7, .ref f8, .ref f9, .ref f10, .int pfu, .int pfw])), (f6, .inl (cI, 30, .inl ftr)), (f8, .inl (cI, 30, .inl fca)), (f9, .inl (cI, 30, .inl fma))] s.heap.size = A at hD ⊢
  have hA : ∀ q : Nat, s.heap.size ≤ q → A q := fun q h => by rw [← hAe]; exact Or.inr h
  have hS : va_S A s.heap s.heap [] := va_S.rf
  have hl := lv_entry ([.ref x0, .int x, .int y]) (n := 3) (Nat.le_of_ble_eq_true rfl)
  rw [lg_entry_eq]
  generalize (lg_sl ([.ref x0, .int x, .int y]) ++ List.replicate (3 - (lg_sl ([.ref x0, .int x, .int y])).length) Slot.unset).toArray = ls at hl ⊢
  replace hl : lv_has ls 3 [(0, .ref x0), (1, .int x), (2, .int y)] := hl
  refine W_Q (fun Q hQ => ?_)
  refine lv_iload_n hx hb d_NU_event_0 rfl (lv_at hl 1 rfl) ?_
  refine lv_if_lt (tgt := 15) hx hb d_NU_event_1 (by decide) (fun hb1 => ?_) (fun hb1 => ?_)
  · skip
    refine lv_iconst (v := (-1)) hx hb d_NU_event_15 (by decide) ?_
    have hP9 := hP.sub (ws' := [(x0, .inr (0, [.ref n0, .ref f0, .ref w0, .ref u0, .ref q0])), (f0, .inr (2, [.int (nI pfc), .ref f1, .ref f2, .ref f3, .ref f4, .ref f5, .int (nI pfe), .ref f6, .ref f7, .ref f8, .ref f9, .ref f10, .int pfu, .int pfw])), (f6, .inl (cI, 30, .inl ftr)), (f8, .inl (cI, 30, .inl fca)), (f9, .inl (cI, 30, .inl fma))]) [0, 1, 2, 3, 4] rfl
    have hD9 := hD.sub (ws' := [(x0, .inr (0, [.ref n0, .ref f0, .ref w0, .ref u0, .ref q0])), (f0, .inr (2, [.int (nI pfc), .ref f1, .ref f2, .ref f3, .ref f4, .ref f5, .int (nI pfe), .ref f6, .ref f7, .ref f8, .ref f9, .ref f10, .int pfu, .int pfw])), (f6, .inl (cI, 30, .inl ftr)), (f8, .inl (cI, 30, .inl fca)), (f9, .inl (cI, 30, .inl fma))]) [0, 1, 2, 3, 4] (by decide) rfl
    subst hQ
    exact W.iret (v := (-1)) hx hb hr (fun t9 ht9 hW => ⟨⟨(-1), (), rfl, trivial, by rw [ht9]; exact hP9, hD9⟩, hS.F ht9⟩) hS.2.2 d_NU_event_16
  · skip
    refine lv_iload_n hx hb d_NU_event_4 rfl (lv_at hl 1 rfl) ?_
    refine lv_aload_n hx hb d_NU_event_5 rfl (lv_at hl 0 rfl) ?_
    refine va_get (D := (dC, dI)) (ci := 0) (v := .ref f0) (C := "NetUnfolder") (T := T_NU) (N := 5) hx hb ht in_NU hown hK hP 0 rfl rfl 1 (by decide) (ht _ wd_2_37) (fun _ h9 => h9) rfl d_NU_event_6 ?_
    refine va_get (D := (dC, dI)) (ci := 2) (v := .int (nI pfe)) (C := "NetUnfolder$Prefix") (T := T_Pf) (N := 14) hx hb ht in_Pf hown hK hP 1 rfl rfl 6 (by decide) (ht _ wd_1_85) (fun _ h9 => h9) rfl d_NU_event_9 ?_
    refine lv_icmp_lt (tgt := 17) hx hb d_NU_event_12 (by decide) (fun hb2 => ?_) (fun hb2 => ?_)
    · skip
      obtain ⟨j3, j3_l, rfl⟩ := ix_of (by omega) hb1 hb2
      refine lv_iload_n hx hb d_NU_event_17 rfl (lv_at hl 2 rfl) ?_
      by_cases hv4 : y = 0
      · refine lv_tableIn (off := 30) (tgt := 48) hx hb d_NU_event_18 (by rw [hv4]; decide) (by rw [hv4]; decide) (by rw [hv4]; decide) (by decide) ?_
        refine lv_aload_n hx hb d_NU_event_48 rfl (lv_at hl 0 rfl) ?_
        refine va_get (D := (dC, dI)) (ci := 0) (v := .ref f0) (C := "NetUnfolder") (T := T_NU) (N := 5) hx hb ht in_NU hown hK hP 0 rfl rfl 1 (by decide) (ht _ wd_2_37) (fun _ h9 => h9) rfl d_NU_event_49 ?_
        refine va_get (D := (dC, dI)) (ci := 2) (v := .ref f6) (C := "NetUnfolder$Prefix") (T := T_Pf) (N := 14) hx hb ht in_Pf hown hK hP 1 rfl rfl 7 (by decide) (ht _ wd_1_89) (fun _ h9 => h9) rfl d_NU_event_52 ?_
        refine lv_iload_n hx hb d_NU_event_55 rfl (lv_at hl 1 rfl) ?_
        refine na_iald (k := j3) hx hb hK hP 2 0 rfl rfl (by omega) (by decide) d_NU_event_56 ?_
        have hP9 := hP.sub (ws' := [(x0, .inr (0, [.ref n0, .ref f0, .ref w0, .ref u0, .ref q0])), (f0, .inr (2, [.int (nI pfc), .ref f1, .ref f2, .ref f3, .ref f4, .ref f5, .int (nI pfe), .ref f6, .ref f7, .ref f8, .ref f9, .ref f10, .int pfu, .int pfw])), (f6, .inl (cI, 30, .inl ftr)), (f8, .inl (cI, 30, .inl fca)), (f9, .inl (cI, 30, .inl fma))]) [0, 1, 2, 3, 4] rfl
        have hD9 := hD.sub (ws' := [(x0, .inr (0, [.ref n0, .ref f0, .ref w0, .ref u0, .ref q0])), (f0, .inr (2, [.int (nI pfc), .ref f1, .ref f2, .ref f3, .ref f4, .ref f5, .int (nI pfe), .ref f6, .ref f7, .ref f8, .ref f9, .ref f10, .int pfu, .int pfw])), (f6, .inl (cI, 30, .inl ftr)), (f8, .inl (cI, 30, .inl fca)), (f9, .inl (cI, 30, .inl fma))]) [0, 1, 2, 3, 4] (by decide) rfl
        subst hQ
        exact W.iret (v := ftr j3) hx hb hr (fun t9 ht9 hW => ⟨⟨ftr j3, (), rfl, trivial, by rw [ht9]; exact hP9, hD9⟩, hS.F ht9⟩) hS.2.2 d_NU_event_57
      by_cases hv5 : y = 1
      · refine lv_tableIn (off := 40) (tgt := 58) hx hb d_NU_event_18 (by rw [hv5]; decide) (by rw [hv5]; decide) (by rw [hv5]; decide) (by decide) ?_
        refine lv_aload_n hx hb d_NU_event_58 rfl (lv_at hl 0 rfl) ?_
        refine va_get (D := (dC, dI)) (ci := 0) (v := .ref f0) (C := "NetUnfolder") (T := T_NU) (N := 5) hx hb ht in_NU hown hK hP 0 rfl rfl 1 (by decide) (ht _ wd_2_37) (fun _ h9 => h9) rfl d_NU_event_59 ?_
        refine va_get (D := (dC, dI)) (ci := 2) (v := .ref f8) (C := "NetUnfolder$Prefix") (T := T_Pf) (N := 14) hx hb ht in_Pf hown hK hP 1 rfl rfl 9 (by decide) (ht _ wd_1_94) (fun _ h9 => h9) rfl d_NU_event_62 ?_
        refine lv_iload_n hx hb d_NU_event_65 rfl (lv_at hl 1 rfl) ?_
        refine na_iald (k := j3) hx hb hK hP 3 0 rfl rfl (by omega) (by decide) d_NU_event_66 ?_
        have hPc : va_P (dC, dI) clA [] _ := pu_P (H := s.heap)
        have hDc : va_D (fun _ => True) [] := pu_D
        have hFc := pu_free hS hA
        refine va_calli (va_runS (As := [.int (fca j3)]) (rest := []) ⟨hx, hb, hml, hown, ht⟩ (c_Ig_bitCount l dC dI cI cL cZ _ (fca j3) ) (va_cwS 1 ht (good_S wd_2_206 wd_2_125 wd_1_17 wd_2_126) rfl rfl rfl (by decide +kernel) ⟨Nat.le_of_ble_eq_true rfl, Nat.le_of_ble_eq_true rfl⟩) ⟨fun a U g mk q => by obtain ⟨q0, q1, qP, qK, qD, qN⟩ := q; exact ⟨q0, q1, qP, va_K.moved (u := U) (U := U.calling g mk a) (Vm.Alike.refl U.vm) qK, qD, NwA.same (u := U) rfl qN⟩, fun U hU hW => ⟨rfl, by rw [hU], by rw [hU]; exact hPc, va_K.moved hW.alike hK, hDc.weaken (fun _ _ _ _ => trivial), NwA.warm hW hN⟩⟩ rfl rfl hl.1 rfl (lv_room (Nat.le_of_ble_eq_true rfl)) d_NU_event_67 ⟨Nat.le_of_ble_eq_true rfl, Nat.le_of_ble_eq_true rfl⟩) hS (fun q _ h => hFc q h) hFc (fun r8 u9 t9 H6 locs ht9 hvm hw7 hB hz1 hk1 hSn => ?_)
        replace hP : va_P (dC, dI) clA [(x0, .inr (0, [.ref n0, .ref f0, .ref w0, .ref u0, .ref q0])), (f0, .inr (2, [.int (nI pfc), .ref f1, .ref f2, .ref f3, .ref f4, .ref f5, .int (nI pfe), .ref f6, .ref f7, .ref f8, .ref f9, .ref f10, .int pfu, .int pfw])), (f6, .inl (cI, 30, .inl ftr)), (f8, .inl (cI, 30, .inl fca)), (f9, .inl (cI, 30, .inl fma))] H6 := pu_keep hP hk1
        replace hS := hSn
        clear hSn hPc hDc hFc hk1 hz1 ht9 hvm hB
        refine W.cs (cells' := 0) (slots' := 0) rfl rfl ?_
        have hP9 := hP.sub (ws' := [(x0, .inr (0, [.ref n0, .ref f0, .ref w0, .ref u0, .ref q0])), (f0, .inr (2, [.int (nI pfc), .ref f1, .ref f2, .ref f3, .ref f4, .ref f5, .int (nI pfe), .ref f6, .ref f7, .ref f8, .ref f9, .ref f10, .int pfu, .int pfw])), (f6, .inl (cI, 30, .inl ftr)), (f8, .inl (cI, 30, .inl fca)), (f9, .inl (cI, 30, .inl fma))]) [0, 1, 2, 3, 4] rfl
        have hD9 := hD.sub (ws' := [(x0, .inr (0, [.ref n0, .ref f0, .ref w0, .ref u0, .ref q0])), (f0, .inr (2, [.int (nI pfc), .ref f1, .ref f2, .ref f3, .ref f4, .ref f5, .int (nI pfe), .ref f6, .ref f7, .ref f8, .ref f9, .ref f10, .int pfu, .int pfw])), (f6, .inl (cI, 30, .inl ftr)), (f8, .inl (cI, 30, .inl fca)), (f9, .inl (cI, 30, .inl fma))]) [0, 1, 2, 3, 4] (by decide) rfl
        subst hQ
        exact W.iret (v := r8) hx hb hr (fun t9 ht9 hW => ⟨⟨r8, (), rfl, trivial, by rw [ht9]; exact hP9, hD9⟩, hS.F ht9⟩) hS.2.2 d_NU_event_70
      by_cases hv9 : y = 2
      · refine lv_tableIn (off := 53) (tgt := 71) hx hb d_NU_event_18 (by rw [hv9]; decide) (by rw [hv9]; decide) (by rw [hv9]; decide) (by decide) ?_
        refine lv_aload_n hx hb d_NU_event_71 rfl (lv_at hl 0 rfl) ?_
        refine va_get (D := (dC, dI)) (ci := 0) (v := .ref f0) (C := "NetUnfolder") (T := T_NU) (N := 5) hx hb ht in_NU hown hK hP 0 rfl rfl 1 (by decide) (ht _ wd_2_37) (fun _ h9 => h9) rfl d_NU_event_72 ?_
        refine va_get (D := (dC, dI)) (ci := 2) (v := .ref f9) (C := "NetUnfolder$Prefix") (T := T_Pf) (N := 14) hx hb ht in_Pf hown hK hP 1 rfl rfl 10 (by decide) (ht _ wd_1_97) (fun _ h9 => h9) rfl d_NU_event_75 ?_
        refine lv_iload_n hx hb d_NU_event_78 rfl (lv_at hl 1 rfl) ?_
        refine na_iald (k := j3) hx hb hK hP 4 0 rfl rfl (by omega) (by decide) d_NU_event_79 ?_
        have hP9 := hP.sub (ws' := [(x0, .inr (0, [.ref n0, .ref f0, .ref w0, .ref u0, .ref q0])), (f0, .inr (2, [.int (nI pfc), .ref f1, .ref f2, .ref f3, .ref f4, .ref f5, .int (nI pfe), .ref f6, .ref f7, .ref f8, .ref f9, .ref f10, .int pfu, .int pfw])), (f6, .inl (cI, 30, .inl ftr)), (f8, .inl (cI, 30, .inl fca)), (f9, .inl (cI, 30, .inl fma))]) [0, 1, 2, 3, 4] rfl
        have hD9 := hD.sub (ws' := [(x0, .inr (0, [.ref n0, .ref f0, .ref w0, .ref u0, .ref q0])), (f0, .inr (2, [.int (nI pfc), .ref f1, .ref f2, .ref f3, .ref f4, .ref f5, .int (nI pfe), .ref f6, .ref f7, .ref f8, .ref f9, .ref f10, .int pfu, .int pfw])), (f6, .inl (cI, 30, .inl ftr)), (f8, .inl (cI, 30, .inl fca)), (f9, .inl (cI, 30, .inl fma))]) [0, 1, 2, 3, 4] (by decide) rfl
        subst hQ
        exact W.iret (v := fma j3) hx hb hr (fun t9 ht9 hW => ⟨⟨fma j3, (), rfl, trivial, by rw [ht9]; exact hP9, hD9⟩, hS.F ht9⟩) hS.2.2 d_NU_event_80
      by_cases hv10 : y = 3
      · refine lv_tableIn (off := 63) (tgt := 81) hx hb d_NU_event_18 (by rw [hv10]; decide) (by rw [hv10]; decide) (by rw [hv10]; decide) (by decide) ?_
        refine lv_aload_n hx hb d_NU_event_81 rfl (lv_at hl 0 rfl) ?_
        refine va_get (D := (dC, dI)) (ci := 0) (v := .ref f0) (C := "NetUnfolder") (T := T_NU) (N := 5) hx hb ht in_NU hown hK hP 0 rfl rfl 1 (by decide) (ht _ wd_2_37) (fun _ h9 => h9) rfl d_NU_event_82 ?_
        refine lv_iload_n hx hb d_NU_event_85 rfl (lv_at hl 1 rfl) ?_
        have hPc := hP.sub (ws' := [(f0, .inr (2, [.int (nI pfc), .ref f1, .ref f2, .ref f3, .ref f4, .ref f5, .int (nI pfe), .ref f6, .ref f7, .ref f8, .ref f9, .ref f10, .int pfu, .int pfw]))]) [1] rfl
        have hDc := hD.sub (ws' := [(f0, .inr (2, [.int (nI pfc), .ref f1, .ref f2, .ref f3, .ref f4, .ref f5, .int (nI pfe), .ref f6, .ref f7, .ref f8, .ref f9, .ref f10, .int pfu, .int pfw]))]) [1] (by decide) rfl
        have hFc := va_free (wc := [(f0, .inr (2, [.int (nI pfc), .ref f1, .ref f2, .ref f3, .ref f4, .ref f5, .int (nI pfe), .ref f6, .ref f7, .ref f8, .ref f9, .ref f10, .int pfu, .int pfw]))]) hD hS hA [1] rfl
        refine va_calli (va_runV (C := "NetUnfolder$Prefix") (As := [.int (nI j3)]) (rest := []) ⟨hx, hb, hml, hown, ht⟩ (c_Pf_isCutOff l dC dI cI cL cZ _ f0 f1 f2 f3 f4 f5 f6 f7 f8 f9 f10 pfc pfe pfu pfw j3 (by first | assumption | omega | trivial | exact AllLt.zero | exact AllN.zero | exact AllM.zero | exact Or.inl rfl | exact Or.inr rfl)) (cwV 1 ht (good_V wd_2_211 wd_2_212 wd_2_213 wd_1_3 wd_2_214) rfl rfl rfl (by decide +kernel) ⟨Nat.le_of_ble_eq_true rfl, Nat.le_of_ble_eq_true rfl⟩) ⟨fun a U g mk q => by obtain ⟨q0, q1, qP, qK, qD, qN⟩ := q; exact ⟨q0, q1, qP, va_K.moved (u := U) (U := U.calling g mk a) (Vm.Alike.refl U.vm) qK, qD, NwA.same (u := U) rfl qN⟩, (va_recv (q0 := 1) (ci := 2) hK hP rfl rfl), fun U hU hW => ⟨rfl, by rw [hU], by rw [hU]; exact hPc, va_K.moved hW.alike hK, hDc.weaken (fun _ _ _ _ => trivial), NwA.warm hW hN⟩⟩ rfl rfl hl.1 rfl (lv_room (Nat.le_of_ble_eq_true rfl)) d_NU_event_86 ⟨Nat.le_of_ble_eq_true rfl, Nat.le_of_ble_eq_true rfl⟩) hS (fun q _ h => hFc q h) hFc (fun r13 u9 t9 H11 locs ht9 hvm hw12 hB hz1 hk1 hSn => ?_)
        obtain ⟨hP1, hD1⟩ := hB
        rw [ht9] at hP1
        obtain ⟨hPn, hDn⟩ := va_join (wr := [(x0, .inr (0, [.ref n0, .ref f0, .ref w0, .ref u0, .ref q0])), (f6, .inl (cI, 30, .inl ftr)), (f8, .inl (cI, 30, .inl fca)), (f9, .inl (cI, 30, .inl fma))]) (w1 := [(f0, .inr (2, [.int (nI pfc), .ref f1, .ref f2, .ref f3, .ref f4, .ref f5, .int (nI pfe), .ref f6, .ref f7, .ref f8, .ref f9, .ref f10, .int pfu, .int pfw]))]) hP hD [1] [0, 2, 3, 4] rfl rfl (by decide) (by decide) hk1 hFc hP1 hD1
        replace hP : va_P (dC, dI) clA [(x0, .inr (0, [.ref n0, .ref f0, .ref w0, .ref u0, .ref q0])), (f6, .inl (cI, 30, .inl ftr)), (f8, .inl (cI, 30, .inl fca)), (f9, .inl (cI, 30, .inl fma)), (f0, .inr (2, [.int (nI pfc), .ref f1, .ref f2, .ref f3, .ref f4, .ref f5, .int (nI pfe), .ref f6, .ref f7, .ref f8, .ref f9, .ref f10, .int pfu, .int pfw]))] H11 := hPn
        replace hD : va_D A [(x0, .inr (0, [.ref n0, .ref f0, .ref w0, .ref u0, .ref q0])), (f6, .inl (cI, 30, .inl ftr)), (f8, .inl (cI, 30, .inl fca)), (f9, .inl (cI, 30, .inl fma)), (f0, .inr (2, [.int (nI pfc), .ref f1, .ref f2, .ref f3, .ref f4, .ref f5, .int (nI pfe), .ref f6, .ref f7, .ref f8, .ref f9, .ref f10, .int pfu, .int pfw]))] := hDn
        replace hS := hSn
        clear hPn hDn hSn
        clear hPc hDc hFc hP1 hD1 hk1 hz1 ht9 hvm
        refine W.cs (cells' := 0) (slots' := 0) rfl rfl ?_
        have hr14 := hw12
        refine lv_if_eq (tgt := 96) hx hb d_NU_event_89 (by decide) (fun hb15 => ?_) (fun hb15 => ?_)
        · skip
          refine lv_iconst (v := 0) hx hb d_NU_event_96 (by decide) ?_
          have hP9 := hP.sub (ws' := [(x0, .inr (0, [.ref n0, .ref f0, .ref w0, .ref u0, .ref q0])), (f0, .inr (2, [.int (nI pfc), .ref f1, .ref f2, .ref f3, .ref f4, .ref f5, .int (nI pfe), .ref f6, .ref f7, .ref f8, .ref f9, .ref f10, .int pfu, .int pfw])), (f6, .inl (cI, 30, .inl ftr)), (f8, .inl (cI, 30, .inl fca)), (f9, .inl (cI, 30, .inl fma))]) [0, 4, 1, 2, 3] rfl
          have hD9 := hD.sub (ws' := [(x0, .inr (0, [.ref n0, .ref f0, .ref w0, .ref u0, .ref q0])), (f0, .inr (2, [.int (nI pfc), .ref f1, .ref f2, .ref f3, .ref f4, .ref f5, .int (nI pfe), .ref f6, .ref f7, .ref f8, .ref f9, .ref f10, .int pfu, .int pfw])), (f6, .inl (cI, 30, .inl ftr)), (f8, .inl (cI, 30, .inl fca)), (f9, .inl (cI, 30, .inl fma))]) [0, 4, 1, 2, 3] (by decide) rfl
          subst hQ
          exact W.iret (v := 0) hx hb hr (fun t9 ht9 hW => ⟨⟨0, (), rfl, trivial, by rw [ht9]; exact hP9, hD9⟩, hS.F ht9⟩) hS.2.2 d_NU_event_97
        · skip
          refine lv_iconst (v := 1) hx hb d_NU_event_92 (by decide) ?_
          refine lv_goto (tgt := 97) hx hb d_NU_event_93 (by decide) ?_
          have hP9 := hP.sub (ws' := [(x0, .inr (0, [.ref n0, .ref f0, .ref w0, .ref u0, .ref q0])), (f0, .inr (2, [.int (nI pfc), .ref f1, .ref f2, .ref f3, .ref f4, .ref f5, .int (nI pfe), .ref f6, .ref f7, .ref f8, .ref f9, .ref f10, .int pfu, .int pfw])), (f6, .inl (cI, 30, .inl ftr)), (f8, .inl (cI, 30, .inl fca)), (f9, .inl (cI, 30, .inl fma))]) [0, 4, 1, 2, 3] rfl
          have hD9 := hD.sub (ws' := [(x0, .inr (0, [.ref n0, .ref f0, .ref w0, .ref u0, .ref q0])), (f0, .inr (2, [.int (nI pfc), .ref f1, .ref f2, .ref f3, .ref f4, .ref f5, .int (nI pfe), .ref f6, .ref f7, .ref f8, .ref f9, .ref f10, .int pfu, .int pfw])), (f6, .inl (cI, 30, .inl ftr)), (f8, .inl (cI, 30, .inl fca)), (f9, .inl (cI, 30, .inl fma))]) [0, 4, 1, 2, 3] (by decide) rfl
          subst hQ
          exact W.iret (v := 1) hx hb hr (fun t9 ht9 hW => ⟨⟨1, (), rfl, trivial, by rw [ht9]; exact hP9, hD9⟩, hS.F ht9⟩) hS.2.2 d_NU_event_97
      refine lv_tableOut (tgt := 98) hx hb d_NU_event_18 (by have ehv4 := fa_ne (k := 0) (by decide) hv4; have ehv5 := fa_ne (k := 1) (by decide) hv5; have ehv9 := fa_ne (k := 2) (by decide) hv9; have ehv10 := fa_ne (k := 3) (by decide) hv10; omega) (by decide) ?_
      refine lv_iconst (v := (-1)) hx hb d_NU_event_98 (by decide) ?_
      have hP9 := hP.sub (ws' := [(x0, .inr (0, [.ref n0, .ref f0, .ref w0, .ref u0, .ref q0])), (f0, .inr (2, [.int (nI pfc), .ref f1, .ref f2, .ref f3, .ref f4, .ref f5, .int (nI pfe), .ref f6, .ref f7, .ref f8, .ref f9, .ref f10, .int pfu, .int pfw])), (f6, .inl (cI, 30, .inl ftr)), (f8, .inl (cI, 30, .inl fca)), (f9, .inl (cI, 30, .inl fma))]) [0, 1, 2, 3, 4] rfl
      have hD9 := hD.sub (ws' := [(x0, .inr (0, [.ref n0, .ref f0, .ref w0, .ref u0, .ref q0])), (f0, .inr (2, [.int (nI pfc), .ref f1, .ref f2, .ref f3, .ref f4, .ref f5, .int (nI pfe), .ref f6, .ref f7, .ref f8, .ref f9, .ref f10, .int pfu, .int pfw])), (f6, .inl (cI, 30, .inl ftr)), (f8, .inl (cI, 30, .inl fca)), (f9, .inl (cI, 30, .inl fma))]) [0, 1, 2, 3, 4] (by decide) rfl
      subst hQ
      exact W.iret (v := (-1)) hx hb hr (fun t9 ht9 hW => ⟨⟨(-1), (), rfl, trivial, by rw [ht9]; exact hP9, hD9⟩, hS.F ht9⟩) hS.2.2 d_NU_event_99
    · skip
      refine lv_iconst (v := (-1)) hx hb d_NU_event_15 (by decide) ?_
      have hP9 := hP.sub (ws' := [(x0, .inr (0, [.ref n0, .ref f0, .ref w0, .ref u0, .ref q0])), (f0, .inr (2, [.int (nI pfc), .ref f1, .ref f2, .ref f3, .ref f4, .ref f5, .int (nI pfe), .ref f6, .ref f7, .ref f8, .ref f9, .ref f10, .int pfu, .int pfw])), (f6, .inl (cI, 30, .inl ftr)), (f8, .inl (cI, 30, .inl fca)), (f9, .inl (cI, 30, .inl fma))]) [0, 1, 2, 3, 4] rfl
      have hD9 := hD.sub (ws' := [(x0, .inr (0, [.ref n0, .ref f0, .ref w0, .ref u0, .ref q0])), (f0, .inr (2, [.int (nI pfc), .ref f1, .ref f2, .ref f3, .ref f4, .ref f5, .int (nI pfe), .ref f6, .ref f7, .ref f8, .ref f9, .ref f10, .int pfu, .int pfw])), (f6, .inl (cI, 30, .inl ftr)), (f8, .inl (cI, 30, .inl fca)), (f9, .inl (cI, 30, .inl fma))]) [0, 1, 2, 3, 4] (by decide) rfl
      subst hQ
      exact W.iret (v := (-1)) hx hb hr (fun t9 ht9 hW => ⟨⟨(-1), (), rfl, trivial, by rw [ht9]; exact hP9, hD9⟩, hS.F ht9⟩) hS.2.2 d_NU_event_16

set_option maxHeartbeats 4000000 in
set_option maxRecDepth 100000 in
theorem c_NU_condition (l : Launch) (dC : Nat → ClassId) (dI : Nat → Nat → Nat) (cI cL cZ : ClassId) (sz : Nat) (x0 : Nat) (u0 : Nat) (n0 : Nat) (w0 : Nat) (f0 : Nat) (f1 : Nat) (f2 : Nat) (f3 : Nat) (f4 : Nat) (f5 : Nat) (f6 : Nat) (f7 : Nat) (f8 : Nat) (f9 : Nat) (f10 : Nat) (pfc : Nat) (pfe : Nat) (pfu : Int32) (pfw : Int32) (fpl : Nat → Int32) (fmk : Nat → Int32) (ftk : Nat → Int32) (q0 : Nat) (x : Int32) (y : Int32) (hpc : pfc ≤ 60) : Met l y_NU_condition (Cond.code y_NU_condition prog_1_method_13_code 3 (some .int) :: wsA) { frames := 1, cells := 0, slots := 0, locals := 20 } (va_Pc [.ref x0, .int x, .int y] (fun U => U.heap.size = sz ∧ va_P (dC, dI) clA [(x0, .inr (0, [.ref n0, .ref f0, .ref w0, .ref u0, .ref q0])), (f0, .inr (2, [.int (nI pfc), .ref f1, .ref f2, .ref f3, .ref f4, .ref f5, .int (nI pfe), .ref f6, .ref f7, .ref f8, .ref f9, .ref f10, .int pfu, .int pfw])), (f1, .inl (cI, 60, .inl fpl)), (f2, .inl (cI, 60, .inl fmk)), (f3, .inl (cI, 60, .inl ftk))] U.heap ∧ va_K (dC, dI) clA [(cI, .int), (cL, .long), (cZ, .boolean)] U ∧ va_D (fun _ => True) [(x0, .inr (0, [.ref n0, .ref f0, .ref w0, .ref u0, .ref q0])), (f0, .inr (2, [.int (nI pfc), .ref f1, .ref f2, .ref f3, .ref f4, .ref f5, .int (nI pfe), .ref f6, .ref f7, .ref f8, .ref f9, .ref f10, .int pfu, .int pfw])), (f1, .inl (cI, 60, .inl fpl)), (f2, .inl (cI, 60, .inl fmk)), (f3, .inl (cI, 60, .inl ftk))] ∧ NwA U)) (va_Qi (fun r (_ : Unit) => True) (fun _ t => va_P (dC, dI) clA [(x0, .inr (0, [.ref n0, .ref f0, .ref w0, .ref u0, .ref q0])), (f0, .inr (2, [.int (nI pfc), .ref f1, .ref f2, .ref f3, .ref f4, .ref f5, .int (nI pfe), .ref f6, .ref f7, .ref f8, .ref f9, .ref f10, .int pfu, .int pfw])), (f1, .inl (cI, 60, .inl fpl)), (f2, .inl (cI, 60, .inl fmk)), (f3, .inl (cI, 60, .inl ftk))] t.heap ∧ va_D (va_A [(x0, .inr (0, [.ref n0, .ref f0, .ref w0, .ref u0, .ref q0])), (f0, .inr (2, [.int (nI pfc), .ref f1, .ref f2, .ref f3, .ref f4, .ref f5, .int (nI pfe), .ref f6, .ref f7, .ref f8, .ref f9, .ref f10, .int pfu, .int pfw])), (f1, .inl (cI, 60, .inl fpl)), (f2, .inl (cI, 60, .inl fmk)), (f3, .inl (cI, 60, .inl ftk))] sz) [(x0, .inr (0, [.ref n0, .ref f0, .ref w0, .ref u0, .ref q0])), (f0, .inr (2, [.int (nI pfc), .ref f1, .ref f2, .ref f3, .ref f4, .ref f5, .int (nI pfe), .ref f6, .ref f7, .ref f8, .ref f9, .ref f10, .int pfu, .int pfw])), (f1, .inl (cI, 60, .inl fpl)), (f2, .inl (cI, 60, .inl fmk)), (f3, .inl (cI, 60, .inl ftk))]) (va_A [(x0, .inr (0, [.ref n0, .ref f0, .ref w0, .ref u0, .ref q0])), (f0, .inr (2, [.int (nI pfc), .ref f1, .ref f2, .ref f3, .ref f4, .ref f5, .int (nI pfe), .ref f6, .ref f7, .ref f8, .ref f9, .ref f10, .int pfu, .int pfw])), (f1, .inl (cI, 60, .inl fpl)), (f2, .inl (cI, 60, .inl fmk)), (f3, .inl (cI, 60, .inl ftk))] sz)) 0 0 (va_A [(x0, .inr (0, [.ref n0, .ref f0, .ref w0, .ref u0, .ref q0])), (f0, .inr (2, [.int (nI pfc), .ref f1, .ref f2, .ref f3, .ref f4, .ref f5, .int (nI pfe), .ref f6, .ref f7, .ref f8, .ref f9, .ref f10, .int pfu, .int pfw])), (f1, .inl (cI, 60, .inl fpl)), (f2, .inl (cI, 60, .inl fmk)), (f3, .inl (cI, 60, .inl ftk))] sz) := by
  refine Met.ofW (cc := prog_1_method_13_code) (maxL := 3) (ret := (some .int)) (by decide) rfl ?_
  intro p e s m args below meth c s₁ B hml hv
  obtain ⟨rfl, hsz, hP, hK, hD0, hN⟩ := hv
  have hx := B.exec
  have hb := B.bytes
  have hr := B.returns
  have ht : ∀ w ∈ wsA, w.before _ s = true := fun w h => atoms_spec (ws := (Cond.code y_NU_condition prog_1_method_13_code 3 (some .int) :: wsA)) B.pre w (List.mem_cons_of_mem _ h)
  have hown : s.vm.findClass "NetUnfolder" = some m.cls := findClass_of_methodNamed B.named
  have hlocks := B.notSynchronized
  subst hsz
  have hD := hD0.self (sz := s.heap.size)
  generalize hAe : va_A [(x0, .inr (0, [.ref n0, .ref f0, .ref w0, .ref u0, .ref q0])), (f0, .inr (2, [.int (nI pfc), .ref f1, .ref f2, .ref f3, .ref f4, .ref f5, .int (nI pfe), .ref f6, .ref f7, .ref f8, .ref f9, .ref f10, .int pfu, .int pfw])), (f1, .inl (cI, 60, .inl fpl)), (f2, .inl (cI, 60, .inl fmk)), (f3, .inl (cI, 60, .inl ftk))] s.heap.size = A at hD ⊢
  have hA : ∀ q : Nat, s.heap.size ≤ q → A q := fun q h => by rw [← hAe]; exact Or.inr h
  have hS : va_S A s.heap s.heap [] := va_S.rf
  have hl := lv_entry ([.ref x0, .int x, .int y]) (n := 3) (Nat.le_of_ble_eq_true rfl)
  rw [lg_entry_eq]
  generalize (lg_sl ([.ref x0, .int x, .int y]) ++ List.replicate (3 - (lg_sl ([.ref x0, .int x, .int y])).length) Slot.unset).toArray = ls at hl ⊢
  replace hl : lv_has ls 3 [(0, .ref x0), (1, .int x), (2, .int y)] := hl
  refine W_Q (fun Q hQ => ?_)
  refine lv_iload_n hx hb d_NU_condition_0 rfl (lv_at hl 1 rfl) ?_
  refine lv_if_lt (tgt := 15) hx hb d_NU_condition_1 (by decide) (fun hb1 => ?_) (fun hb1 => ?_)
  · skip
    refine lv_iconst (v := (-1)) hx hb d_NU_condition_15 (by decide) ?_
    have hP9 := hP.sub (ws' := [(x0, .inr (0, [.ref n0, .ref f0, .ref w0, .ref u0, .ref q0])), (f0, .inr (2, [.int (nI pfc), .ref f1, .ref f2, .ref f3, .ref f4, .ref f5, .int (nI pfe), .ref f6, .ref f7, .ref f8, .ref f9, .ref f10, .int pfu, .int pfw])), (f1, .inl (cI, 60, .inl fpl)), (f2, .inl (cI, 60, .inl fmk)), (f3, .inl (cI, 60, .inl ftk))]) [0, 1, 2, 3, 4] rfl
    have hD9 := hD.sub (ws' := [(x0, .inr (0, [.ref n0, .ref f0, .ref w0, .ref u0, .ref q0])), (f0, .inr (2, [.int (nI pfc), .ref f1, .ref f2, .ref f3, .ref f4, .ref f5, .int (nI pfe), .ref f6, .ref f7, .ref f8, .ref f9, .ref f10, .int pfu, .int pfw])), (f1, .inl (cI, 60, .inl fpl)), (f2, .inl (cI, 60, .inl fmk)), (f3, .inl (cI, 60, .inl ftk))]) [0, 1, 2, 3, 4] (by decide) rfl
    subst hQ
    exact W.iret (v := (-1)) hx hb hr (fun t9 ht9 hW => ⟨⟨(-1), (), rfl, trivial, by rw [ht9]; exact hP9, hD9⟩, hS.F ht9⟩) hS.2.2 d_NU_condition_16
  · skip
    refine lv_iload_n hx hb d_NU_condition_4 rfl (lv_at hl 1 rfl) ?_
    refine lv_aload_n hx hb d_NU_condition_5 rfl (lv_at hl 0 rfl) ?_
    refine va_get (D := (dC, dI)) (ci := 0) (v := .ref f0) (C := "NetUnfolder") (T := T_NU) (N := 5) hx hb ht in_NU hown hK hP 0 rfl rfl 1 (by decide) (ht _ wd_2_37) (fun _ h9 => h9) rfl d_NU_condition_6 ?_
    refine va_get (D := (dC, dI)) (ci := 2) (v := .int (nI pfc)) (C := "NetUnfolder$Prefix") (T := T_Pf) (N := 14) hx hb ht in_Pf hown hK hP 1 rfl rfl 0 (by decide) (ht _ wd_1_65) (fun _ h9 => h9) rfl d_NU_condition_9 ?_
    refine lv_icmp_lt (tgt := 17) hx hb d_NU_condition_12 (by decide) (fun hb2 => ?_) (fun hb2 => ?_)
    · skip
      obtain ⟨j3, j3_l, rfl⟩ := ix_of (by omega) hb1 hb2
      refine lv_iload_n hx hb d_NU_condition_17 rfl (lv_at hl 2 rfl) ?_
      by_cases hv4 : y = 0
      · refine lv_tableIn (off := 26) (tgt := 44) hx hb d_NU_condition_18 (by rw [hv4]; decide) (by rw [hv4]; decide) (by rw [hv4]; decide) (by decide) ?_
        refine lv_aload_n hx hb d_NU_condition_44 rfl (lv_at hl 0 rfl) ?_
        refine va_get (D := (dC, dI)) (ci := 0) (v := .ref f0) (C := "NetUnfolder") (T := T_NU) (N := 5) hx hb ht in_NU hown hK hP 0 rfl rfl 1 (by decide) (ht _ wd_2_37) (fun _ h9 => h9) rfl d_NU_condition_45 ?_
        refine va_get (D := (dC, dI)) (ci := 2) (v := .ref f1) (C := "NetUnfolder$Prefix") (T := T_Pf) (N := 14) hx hb ht in_Pf hown hK hP 1 rfl rfl 1 (by decide) (ht _ wd_1_69) (fun _ h9 => h9) rfl d_NU_condition_48 ?_
        refine lv_iload_n hx hb d_NU_condition_51 rfl (lv_at hl 1 rfl) ?_
        refine na_iald (k := j3) hx hb hK hP 2 0 rfl rfl (by omega) (by decide) d_NU_condition_52 ?_
        have hP9 := hP.sub (ws' := [(x0, .inr (0, [.ref n0, .ref f0, .ref w0, .ref u0, .ref q0])), (f0, .inr (2, [.int (nI pfc), .ref f1, .ref f2, .ref f3, .ref f4, .ref f5, .int (nI pfe), .ref f6, .ref f7, .ref f8, .ref f9, .ref f10, .int pfu, .int pfw])), (f1, .inl (cI, 60, .inl fpl)), (f2, .inl (cI, 60, .inl fmk)), (f3, .inl (cI, 60, .inl ftk))]) [0, 1, 2, 3, 4] rfl
        have hD9 := hD.sub (ws' := [(x0, .inr (0, [.ref n0, .ref f0, .ref w0, .ref u0, .ref q0])), (f0, .inr (2, [.int (nI pfc), .ref f1, .ref f2, .ref f3, .ref f4, .ref f5, .int (nI pfe), .ref f6, .ref f7, .ref f8, .ref f9, .ref f10, .int pfu, .int pfw])), (f1, .inl (cI, 60, .inl fpl)), (f2, .inl (cI, 60, .inl fmk)), (f3, .inl (cI, 60, .inl ftk))]) [0, 1, 2, 3, 4] (by decide) rfl
        subst hQ
        exact W.iret (v := fpl j3) hx hb hr (fun t9 ht9 hW => ⟨⟨fpl j3, (), rfl, trivial, by rw [ht9]; exact hP9, hD9⟩, hS.F ht9⟩) hS.2.2 d_NU_condition_53
      by_cases hv5 : y = 1
      · refine lv_tableIn (off := 36) (tgt := 54) hx hb d_NU_condition_18 (by rw [hv5]; decide) (by rw [hv5]; decide) (by rw [hv5]; decide) (by decide) ?_
        refine lv_aload_n hx hb d_NU_condition_54 rfl (lv_at hl 0 rfl) ?_
        refine va_get (D := (dC, dI)) (ci := 0) (v := .ref f0) (C := "NetUnfolder") (T := T_NU) (N := 5) hx hb ht in_NU hown hK hP 0 rfl rfl 1 (by decide) (ht _ wd_2_37) (fun _ h9 => h9) rfl d_NU_condition_55 ?_
        refine va_get (D := (dC, dI)) (ci := 2) (v := .ref f2) (C := "NetUnfolder$Prefix") (T := T_Pf) (N := 14) hx hb ht in_Pf hown hK hP 1 rfl rfl 2 (by decide) (ht _ wd_1_72) (fun _ h9 => h9) rfl d_NU_condition_58 ?_
        refine lv_iload_n hx hb d_NU_condition_61 rfl (lv_at hl 1 rfl) ?_
        refine na_iald (k := j3) hx hb hK hP 3 0 rfl rfl (by omega) (by decide) d_NU_condition_62 ?_
        have hP9 := hP.sub (ws' := [(x0, .inr (0, [.ref n0, .ref f0, .ref w0, .ref u0, .ref q0])), (f0, .inr (2, [.int (nI pfc), .ref f1, .ref f2, .ref f3, .ref f4, .ref f5, .int (nI pfe), .ref f6, .ref f7, .ref f8, .ref f9, .ref f10, .int pfu, .int pfw])), (f1, .inl (cI, 60, .inl fpl)), (f2, .inl (cI, 60, .inl fmk)), (f3, .inl (cI, 60, .inl ftk))]) [0, 1, 2, 3, 4] rfl
        have hD9 := hD.sub (ws' := [(x0, .inr (0, [.ref n0, .ref f0, .ref w0, .ref u0, .ref q0])), (f0, .inr (2, [.int (nI pfc), .ref f1, .ref f2, .ref f3, .ref f4, .ref f5, .int (nI pfe), .ref f6, .ref f7, .ref f8, .ref f9, .ref f10, .int pfu, .int pfw])), (f1, .inl (cI, 60, .inl fpl)), (f2, .inl (cI, 60, .inl fmk)), (f3, .inl (cI, 60, .inl ftk))]) [0, 1, 2, 3, 4] (by decide) rfl
        subst hQ
        exact W.iret (v := fmk j3) hx hb hr (fun t9 ht9 hW => ⟨⟨fmk j3, (), rfl, trivial, by rw [ht9]; exact hP9, hD9⟩, hS.F ht9⟩) hS.2.2 d_NU_condition_63
      by_cases hv6 : y = 2
      · refine lv_tableIn (off := 46) (tgt := 64) hx hb d_NU_condition_18 (by rw [hv6]; decide) (by rw [hv6]; decide) (by rw [hv6]; decide) (by decide) ?_
        refine lv_aload_n hx hb d_NU_condition_64 rfl (lv_at hl 0 rfl) ?_
        refine va_get (D := (dC, dI)) (ci := 0) (v := .ref f0) (C := "NetUnfolder") (T := T_NU) (N := 5) hx hb ht in_NU hown hK hP 0 rfl rfl 1 (by decide) (ht _ wd_2_37) (fun _ h9 => h9) rfl d_NU_condition_65 ?_
        refine va_get (D := (dC, dI)) (ci := 2) (v := .ref f3) (C := "NetUnfolder$Prefix") (T := T_Pf) (N := 14) hx hb ht in_Pf hown hK hP 1 rfl rfl 3 (by decide) (ht _ wd_1_75) (fun _ h9 => h9) rfl d_NU_condition_68 ?_
        refine lv_iload_n hx hb d_NU_condition_71 rfl (lv_at hl 1 rfl) ?_
        refine na_iald (k := j3) hx hb hK hP 4 0 rfl rfl (by omega) (by decide) d_NU_condition_72 ?_
        have hPc : va_P (dC, dI) clA [] _ := pu_P (H := s.heap)
        have hDc : va_D (fun _ => True) [] := pu_D
        have hFc := pu_free hS hA
        refine va_calli (va_runS (As := [.int (ftk j3)]) (rest := []) ⟨hx, hb, hml, hown, ht⟩ (c_Ig_bitCount l dC dI cI cL cZ _ (ftk j3) ) (va_cwS 1 ht (good_S wd_2_206 wd_2_125 wd_1_17 wd_2_126) rfl rfl rfl (by decide +kernel) ⟨Nat.le_of_ble_eq_true rfl, Nat.le_of_ble_eq_true rfl⟩) ⟨fun a U g mk q => by obtain ⟨q0, q1, qP, qK, qD, qN⟩ := q; exact ⟨q0, q1, qP, va_K.moved (u := U) (U := U.calling g mk a) (Vm.Alike.refl U.vm) qK, qD, NwA.same (u := U) rfl qN⟩, fun U hU hW => ⟨rfl, by rw [hU], by rw [hU]; exact hPc, va_K.moved hW.alike hK, hDc.weaken (fun _ _ _ _ => trivial), NwA.warm hW hN⟩⟩ rfl rfl hl.1 rfl (lv_room (Nat.le_of_ble_eq_true rfl)) d_NU_condition_73 ⟨Nat.le_of_ble_eq_true rfl, Nat.le_of_ble_eq_true rfl⟩) hS (fun q _ h => hFc q h) hFc (fun r9 u9 t9 H7 locs ht9 hvm hw8 hB hz1 hk1 hSn => ?_)
        replace hP : va_P (dC, dI) clA [(x0, .inr (0, [.ref n0, .ref f0, .ref w0, .ref u0, .ref q0])), (f0, .inr (2, [.int (nI pfc), .ref f1, .ref f2, .ref f3, .ref f4, .ref f5, .int (nI pfe), .ref f6, .ref f7, .ref f8, .ref f9, .ref f10, .int pfu, .int pfw])), (f1, .inl (cI, 60, .inl fpl)), (f2, .inl (cI, 60, .inl fmk)), (f3, .inl (cI, 60, .inl ftk))] H7 := pu_keep hP hk1
        replace hS := hSn
        clear hSn hPc hDc hFc hk1 hz1 ht9 hvm hB
        refine W.cs (cells' := 0) (slots' := 0) rfl rfl ?_
        have hP9 := hP.sub (ws' := [(x0, .inr (0, [.ref n0, .ref f0, .ref w0, .ref u0, .ref q0])), (f0, .inr (2, [.int (nI pfc), .ref f1, .ref f2, .ref f3, .ref f4, .ref f5, .int (nI pfe), .ref f6, .ref f7, .ref f8, .ref f9, .ref f10, .int pfu, .int pfw])), (f1, .inl (cI, 60, .inl fpl)), (f2, .inl (cI, 60, .inl fmk)), (f3, .inl (cI, 60, .inl ftk))]) [0, 1, 2, 3, 4] rfl
        have hD9 := hD.sub (ws' := [(x0, .inr (0, [.ref n0, .ref f0, .ref w0, .ref u0, .ref q0])), (f0, .inr (2, [.int (nI pfc), .ref f1, .ref f2, .ref f3, .ref f4, .ref f5, .int (nI pfe), .ref f6, .ref f7, .ref f8, .ref f9, .ref f10, .int pfu, .int pfw])), (f1, .inl (cI, 60, .inl fpl)), (f2, .inl (cI, 60, .inl fmk)), (f3, .inl (cI, 60, .inl ftk))]) [0, 1, 2, 3, 4] (by decide) rfl
        subst hQ
        exact W.iret (v := r9) hx hb hr (fun t9 ht9 hW => ⟨⟨r9, (), rfl, trivial, by rw [ht9]; exact hP9, hD9⟩, hS.F ht9⟩) hS.2.2 d_NU_condition_76
      refine lv_tableOut (tgt := 77) hx hb d_NU_condition_18 (by have ehv4 := fa_ne (k := 0) (by decide) hv4; have ehv5 := fa_ne (k := 1) (by decide) hv5; have ehv6 := fa_ne (k := 2) (by decide) hv6; omega) (by decide) ?_
      refine lv_iconst (v := (-1)) hx hb d_NU_condition_77 (by decide) ?_
      have hP9 := hP.sub (ws' := [(x0, .inr (0, [.ref n0, .ref f0, .ref w0, .ref u0, .ref q0])), (f0, .inr (2, [.int (nI pfc), .ref f1, .ref f2, .ref f3, .ref f4, .ref f5, .int (nI pfe), .ref f6, .ref f7, .ref f8, .ref f9, .ref f10, .int pfu, .int pfw])), (f1, .inl (cI, 60, .inl fpl)), (f2, .inl (cI, 60, .inl fmk)), (f3, .inl (cI, 60, .inl ftk))]) [0, 1, 2, 3, 4] rfl
      have hD9 := hD.sub (ws' := [(x0, .inr (0, [.ref n0, .ref f0, .ref w0, .ref u0, .ref q0])), (f0, .inr (2, [.int (nI pfc), .ref f1, .ref f2, .ref f3, .ref f4, .ref f5, .int (nI pfe), .ref f6, .ref f7, .ref f8, .ref f9, .ref f10, .int pfu, .int pfw])), (f1, .inl (cI, 60, .inl fpl)), (f2, .inl (cI, 60, .inl fmk)), (f3, .inl (cI, 60, .inl ftk))]) [0, 1, 2, 3, 4] (by decide) rfl
      subst hQ
      exact W.iret (v := (-1)) hx hb hr (fun t9 ht9 hW => ⟨⟨(-1), (), rfl, trivial, by rw [ht9]; exact hP9, hD9⟩, hS.F ht9⟩) hS.2.2 d_NU_condition_78
    · skip
      refine lv_iconst (v := (-1)) hx hb d_NU_condition_15 (by decide) ?_
      have hP9 := hP.sub (ws' := [(x0, .inr (0, [.ref n0, .ref f0, .ref w0, .ref u0, .ref q0])), (f0, .inr (2, [.int (nI pfc), .ref f1, .ref f2, .ref f3, .ref f4, .ref f5, .int (nI pfe), .ref f6, .ref f7, .ref f8, .ref f9, .ref f10, .int pfu, .int pfw])), (f1, .inl (cI, 60, .inl fpl)), (f2, .inl (cI, 60, .inl fmk)), (f3, .inl (cI, 60, .inl ftk))]) [0, 1, 2, 3, 4] rfl
      have hD9 := hD.sub (ws' := [(x0, .inr (0, [.ref n0, .ref f0, .ref w0, .ref u0, .ref q0])), (f0, .inr (2, [.int (nI pfc), .ref f1, .ref f2, .ref f3, .ref f4, .ref f5, .int (nI pfe), .ref f6, .ref f7, .ref f8, .ref f9, .ref f10, .int pfu, .int pfw])), (f1, .inl (cI, 60, .inl fpl)), (f2, .inl (cI, 60, .inl fmk)), (f3, .inl (cI, 60, .inl ftk))]) [0, 1, 2, 3, 4] (by decide) rfl
      subst hQ
      exact W.iret (v := (-1)) hx hb hr (fun t9 ht9 hW => ⟨⟨(-1), (), rfl, trivial, by rw [ht9]; exact hP9, hD9⟩, hS.F ht9⟩) hS.2.2 d_NU_condition_16

set_option maxHeartbeats 4000000 in
set_option maxRecDepth 100000 in
theorem c_NU_concurrent (l : Launch) (dC : Nat → ClassId) (dI : Nat → Nat → Nat) (cI cL cZ : ClassId) (sz : Nat) (x0 : Nat) (u0 : Nat) (n0 : Nat) (w0 : Nat) (f0 : Nat) (f1 : Nat) (f2 : Nat) (f3 : Nat) (f4 : Nat) (f5 : Nat) (f6 : Nat) (f7 : Nat) (f8 : Nat) (f9 : Nat) (f10 : Nat) (pfc : Nat) (pfe : Nat) (pfu : Int32) (pfw : Int32) (fbs : Nat → Int64) (q0 : Nat) (x : Int32) (y : Int32) (hpc : pfc ≤ 60) : Met l y_NU_concurrent (Cond.code y_NU_concurrent prog_1_method_14_code 3 (some .boolean) :: wsA) { frames := 1, cells := 0, slots := 0, locals := 22 } (va_Pc [.ref x0, .int x, .int y] (fun U => U.heap.size = sz ∧ va_P (dC, dI) clA [(x0, .inr (0, [.ref n0, .ref f0, .ref w0, .ref u0, .ref q0])), (f0, .inr (2, [.int (nI pfc), .ref f1, .ref f2, .ref f3, .ref f4, .ref f5, .int (nI pfe), .ref f6, .ref f7, .ref f8, .ref f9, .ref f10, .int pfu, .int pfw])), (f4, .inl (cL, 60, .inr (.inl fbs)))] U.heap ∧ va_K (dC, dI) clA [(cI, .int), (cL, .long), (cZ, .boolean)] U ∧ va_D (fun _ => True) [(x0, .inr (0, [.ref n0, .ref f0, .ref w0, .ref u0, .ref q0])), (f0, .inr (2, [.int (nI pfc), .ref f1, .ref f2, .ref f3, .ref f4, .ref f5, .int (nI pfe), .ref f6, .ref f7, .ref f8, .ref f9, .ref f10, .int pfu, .int pfw])), (f4, .inl (cL, 60, .inr (.inl fbs)))] ∧ NwA U)) (va_Qi (fun r (_ : Unit) => True) (fun _ t => va_P (dC, dI) clA [(x0, .inr (0, [.ref n0, .ref f0, .ref w0, .ref u0, .ref q0])), (f0, .inr (2, [.int (nI pfc), .ref f1, .ref f2, .ref f3, .ref f4, .ref f5, .int (nI pfe), .ref f6, .ref f7, .ref f8, .ref f9, .ref f10, .int pfu, .int pfw])), (f4, .inl (cL, 60, .inr (.inl fbs)))] t.heap ∧ va_D (va_A [(x0, .inr (0, [.ref n0, .ref f0, .ref w0, .ref u0, .ref q0])), (f0, .inr (2, [.int (nI pfc), .ref f1, .ref f2, .ref f3, .ref f4, .ref f5, .int (nI pfe), .ref f6, .ref f7, .ref f8, .ref f9, .ref f10, .int pfu, .int pfw])), (f4, .inl (cL, 60, .inr (.inl fbs)))] sz) [(x0, .inr (0, [.ref n0, .ref f0, .ref w0, .ref u0, .ref q0])), (f0, .inr (2, [.int (nI pfc), .ref f1, .ref f2, .ref f3, .ref f4, .ref f5, .int (nI pfe), .ref f6, .ref f7, .ref f8, .ref f9, .ref f10, .int pfu, .int pfw])), (f4, .inl (cL, 60, .inr (.inl fbs)))]) (va_A [(x0, .inr (0, [.ref n0, .ref f0, .ref w0, .ref u0, .ref q0])), (f0, .inr (2, [.int (nI pfc), .ref f1, .ref f2, .ref f3, .ref f4, .ref f5, .int (nI pfe), .ref f6, .ref f7, .ref f8, .ref f9, .ref f10, .int pfu, .int pfw])), (f4, .inl (cL, 60, .inr (.inl fbs)))] sz)) 0 0 (va_A [(x0, .inr (0, [.ref n0, .ref f0, .ref w0, .ref u0, .ref q0])), (f0, .inr (2, [.int (nI pfc), .ref f1, .ref f2, .ref f3, .ref f4, .ref f5, .int (nI pfe), .ref f6, .ref f7, .ref f8, .ref f9, .ref f10, .int pfu, .int pfw])), (f4, .inl (cL, 60, .inr (.inl fbs)))] sz) := by
  refine Met.ofW (cc := prog_1_method_14_code) (maxL := 3) (ret := (some .boolean)) (by decide) rfl ?_
  intro p e s m args below meth c s₁ B hml hv
  obtain ⟨rfl, hsz, hP, hK, hD0, hN⟩ := hv
  have hx := B.exec
  have hb := B.bytes
  have hr := B.returns
  have ht : ∀ w ∈ wsA, w.before _ s = true := fun w h => atoms_spec (ws := (Cond.code y_NU_concurrent prog_1_method_14_code 3 (some .boolean) :: wsA)) B.pre w (List.mem_cons_of_mem _ h)
  have hown : s.vm.findClass "NetUnfolder" = some m.cls := findClass_of_methodNamed B.named
  have hlocks := B.notSynchronized
  subst hsz
  have hD := hD0.self (sz := s.heap.size)
  generalize hAe : va_A [(x0, .inr (0, [.ref n0, .ref f0, .ref w0, .ref u0, .ref q0])), (f0, .inr (2, [.int (nI pfc), .ref f1, .ref f2, .ref f3, .ref f4, .ref f5, .int (nI pfe), .ref f6, .ref f7, .ref f8, .ref f9, .ref f10, .int pfu, .int pfw])), (f4, .inl (cL, 60, .inr (.inl fbs)))] s.heap.size = A at hD ⊢
  have hA : ∀ q : Nat, s.heap.size ≤ q → A q := fun q h => by rw [← hAe]; exact Or.inr h
  have hS : va_S A s.heap s.heap [] := va_S.rf
  have hl := lv_entry ([.ref x0, .int x, .int y]) (n := 3) (Nat.le_of_ble_eq_true rfl)
  rw [lg_entry_eq]
  generalize (lg_sl ([.ref x0, .int x, .int y]) ++ List.replicate (3 - (lg_sl ([.ref x0, .int x, .int y])).length) Slot.unset).toArray = ls at hl ⊢
  replace hl : lv_has ls 3 [(0, .ref x0), (1, .int x), (2, .int y)] := hl
  refine W_Q (fun Q hQ => ?_)
  refine lv_iload_n hx hb d_NU_concurrent_0 rfl (lv_at hl 1 rfl) ?_
  refine lv_if_lt (tgt := 30) hx hb d_NU_concurrent_1 (by decide) (fun hb1 => ?_) (fun hb1 => ?_)
  · skip
    refine lv_iconst (v := 0) hx hb d_NU_concurrent_30 (by decide) ?_
    have hP9 := hP.sub (ws' := [(x0, .inr (0, [.ref n0, .ref f0, .ref w0, .ref u0, .ref q0])), (f0, .inr (2, [.int (nI pfc), .ref f1, .ref f2, .ref f3, .ref f4, .ref f5, .int (nI pfe), .ref f6, .ref f7, .ref f8, .ref f9, .ref f10, .int pfu, .int pfw])), (f4, .inl (cL, 60, .inr (.inl fbs)))]) [0, 1, 2] rfl
    have hD9 := hD.sub (ws' := [(x0, .inr (0, [.ref n0, .ref f0, .ref w0, .ref u0, .ref q0])), (f0, .inr (2, [.int (nI pfc), .ref f1, .ref f2, .ref f3, .ref f4, .ref f5, .int (nI pfe), .ref f6, .ref f7, .ref f8, .ref f9, .ref f10, .int pfu, .int pfw])), (f4, .inl (cL, 60, .inr (.inl fbs)))]) [0, 1, 2] (by decide) rfl
    subst hQ
    exact W.zret (v := 0) hx hb hr rfl (fun t9 ht9 hW => ⟨⟨0, (), rfl, trivial, by rw [ht9]; exact hP9, hD9⟩, hS.F ht9⟩) hS.2.2 d_NU_concurrent_31
  · skip
    refine lv_iload_n hx hb d_NU_concurrent_4 rfl (lv_at hl 1 rfl) ?_
    refine lv_aload_n hx hb d_NU_concurrent_5 rfl (lv_at hl 0 rfl) ?_
    refine va_get (D := (dC, dI)) (ci := 0) (v := .ref f0) (C := "NetUnfolder") (T := T_NU) (N := 5) hx hb ht in_NU hown hK hP 0 rfl rfl 1 (by decide) (ht _ wd_2_37) (fun _ h9 => h9) rfl d_NU_concurrent_6 ?_
    refine va_get (D := (dC, dI)) (ci := 2) (v := .int (nI pfc)) (C := "NetUnfolder$Prefix") (T := T_Pf) (N := 14) hx hb ht in_Pf hown hK hP 1 rfl rfl 0 (by decide) (ht _ wd_1_65) (fun _ h9 => h9) rfl d_NU_concurrent_9 ?_
    refine lv_icmp_ge (tgt := 30) hx hb d_NU_concurrent_12 (by decide) (fun hb2 => ?_) (fun hb2 => ?_)
    · skip
      refine lv_iconst (v := 0) hx hb d_NU_concurrent_30 (by decide) ?_
      have hP9 := hP.sub (ws' := [(x0, .inr (0, [.ref n0, .ref f0, .ref w0, .ref u0, .ref q0])), (f0, .inr (2, [.int (nI pfc), .ref f1, .ref f2, .ref f3, .ref f4, .ref f5, .int (nI pfe), .ref f6, .ref f7, .ref f8, .ref f9, .ref f10, .int pfu, .int pfw])), (f4, .inl (cL, 60, .inr (.inl fbs)))]) [0, 1, 2] rfl
      have hD9 := hD.sub (ws' := [(x0, .inr (0, [.ref n0, .ref f0, .ref w0, .ref u0, .ref q0])), (f0, .inr (2, [.int (nI pfc), .ref f1, .ref f2, .ref f3, .ref f4, .ref f5, .int (nI pfe), .ref f6, .ref f7, .ref f8, .ref f9, .ref f10, .int pfu, .int pfw])), (f4, .inl (cL, 60, .inr (.inl fbs)))]) [0, 1, 2] (by decide) rfl
      subst hQ
      exact W.zret (v := 0) hx hb hr rfl (fun t9 ht9 hW => ⟨⟨0, (), rfl, trivial, by rw [ht9]; exact hP9, hD9⟩, hS.F ht9⟩) hS.2.2 d_NU_concurrent_31
    · skip
      obtain ⟨j3, j3_l, rfl⟩ := ix_of2 (by omega) hb1 hb2
      refine lv_iload_n hx hb d_NU_concurrent_15 rfl (lv_at hl 2 rfl) ?_
      refine lv_if_lt (tgt := 30) hx hb d_NU_concurrent_16 (by decide) (fun hb4 => ?_) (fun hb4 => ?_)
      · skip
        refine lv_iconst (v := 0) hx hb d_NU_concurrent_30 (by decide) ?_
        have hP9 := hP.sub (ws' := [(x0, .inr (0, [.ref n0, .ref f0, .ref w0, .ref u0, .ref q0])), (f0, .inr (2, [.int (nI pfc), .ref f1, .ref f2, .ref f3, .ref f4, .ref f5, .int (nI pfe), .ref f6, .ref f7, .ref f8, .ref f9, .ref f10, .int pfu, .int pfw])), (f4, .inl (cL, 60, .inr (.inl fbs)))]) [0, 1, 2] rfl
        have hD9 := hD.sub (ws' := [(x0, .inr (0, [.ref n0, .ref f0, .ref w0, .ref u0, .ref q0])), (f0, .inr (2, [.int (nI pfc), .ref f1, .ref f2, .ref f3, .ref f4, .ref f5, .int (nI pfe), .ref f6, .ref f7, .ref f8, .ref f9, .ref f10, .int pfu, .int pfw])), (f4, .inl (cL, 60, .inr (.inl fbs)))]) [0, 1, 2] (by decide) rfl
        subst hQ
        exact W.zret (v := 0) hx hb hr rfl (fun t9 ht9 hW => ⟨⟨0, (), rfl, trivial, by rw [ht9]; exact hP9, hD9⟩, hS.F ht9⟩) hS.2.2 d_NU_concurrent_31
      · skip
        refine lv_iload_n hx hb d_NU_concurrent_19 rfl (lv_at hl 2 rfl) ?_
        refine lv_aload_n hx hb d_NU_concurrent_20 rfl (lv_at hl 0 rfl) ?_
        refine va_get (D := (dC, dI)) (ci := 0) (v := .ref f0) (C := "NetUnfolder") (T := T_NU) (N := 5) hx hb ht in_NU hown hK hP 0 rfl rfl 1 (by decide) (ht _ wd_2_37) (fun _ h9 => h9) rfl d_NU_concurrent_21 ?_
        refine va_get (D := (dC, dI)) (ci := 2) (v := .int (nI pfc)) (C := "NetUnfolder$Prefix") (T := T_Pf) (N := 14) hx hb ht in_Pf hown hK hP 1 rfl rfl 0 (by decide) (ht _ wd_1_65) (fun _ h9 => h9) rfl d_NU_concurrent_24 ?_
        refine lv_icmp_lt (tgt := 32) hx hb d_NU_concurrent_27 (by decide) (fun hb5 => ?_) (fun hb5 => ?_)
        · skip
          obtain ⟨j6, j6_l, rfl⟩ := ix_of (by omega) hb4 hb5
          refine lv_aload_n hx hb d_NU_concurrent_32 rfl (lv_at hl 0 rfl) ?_
          refine va_get (D := (dC, dI)) (ci := 0) (v := .ref f0) (C := "NetUnfolder") (T := T_NU) (N := 5) hx hb ht in_NU hown hK hP 0 rfl rfl 1 (by decide) (ht _ wd_2_37) (fun _ h9 => h9) rfl d_NU_concurrent_33 ?_
          refine va_get (D := (dC, dI)) (ci := 2) (v := .ref f4) (C := "NetUnfolder$Prefix") (T := T_Pf) (N := 14) hx hb ht in_Pf hown hK hP 1 rfl rfl 4 (by decide) (ht _ wd_1_78) (fun _ h9 => h9) rfl d_NU_concurrent_36 ?_
          refine lv_iload_n hx hb d_NU_concurrent_39 rfl (lv_at hl 1 rfl) ?_
          refine na_lald (k := j3) hx hb hK hP 2 1 rfl rfl (by omega) (by decide) d_NU_concurrent_40 ?_
          refine lv_iload_n hx hb d_NU_concurrent_41 rfl (lv_at hl 2 rfl) ?_
          have hPc : va_P (dC, dI) clA [] _ := pu_P (H := s.heap)
          have hDc : va_D (fun _ => True) [] := pu_D
          have hFc := pu_free hS hA
          refine va_calli (va_runS (As := [.long (fbs j3), .int (nI j6)]) (rest := []) ⟨hx, hb, hml, hown, ht⟩ (c_NU_has l dC dI cI cL cZ _ (fbs j3) j6 (by first | assumption | omega | trivial | exact AllLt.zero | exact AllN.zero | exact AllM.zero | exact Or.inl rfl | exact Or.inr rfl)) (va_cwS 2 ht (good_S wd_3_0 wd_2_101 wd_1_1 wd_2_102) rfl rfl rfl (by decide +kernel) ⟨Nat.le_of_ble_eq_true rfl, Nat.le_of_ble_eq_true rfl⟩) ⟨fun a U g mk q => by obtain ⟨q0, q1, qP, qK, qD, qN⟩ := q; exact ⟨q0, q1, qP, va_K.moved (u := U) (U := U.calling g mk a) (Vm.Alike.refl U.vm) qK, qD, NwA.same (u := U) rfl qN⟩, fun U hU hW => ⟨rfl, by rw [hU], by rw [hU]; exact hPc, va_K.moved hW.alike hK, hDc.weaken (fun _ _ _ _ => trivial), NwA.warm hW hN⟩⟩ rfl rfl hl.1 rfl (lv_room (Nat.le_of_ble_eq_true rfl)) d_NU_concurrent_42 ⟨Nat.le_of_ble_eq_true rfl, Nat.le_of_ble_eq_true rfl⟩) hS (fun q _ h => hFc q h) hFc (fun r9 u9 t9 H7 locs ht9 hvm hw8 hB hz1 hk1 hSn => ?_)
          replace hP : va_P (dC, dI) clA [(x0, .inr (0, [.ref n0, .ref f0, .ref w0, .ref u0, .ref q0])), (f0, .inr (2, [.int (nI pfc), .ref f1, .ref f2, .ref f3, .ref f4, .ref f5, .int (nI pfe), .ref f6, .ref f7, .ref f8, .ref f9, .ref f10, .int pfu, .int pfw])), (f4, .inl (cL, 60, .inr (.inl fbs)))] H7 := pu_keep hP hk1
          replace hS := hSn
          clear hSn hPc hDc hFc hk1 hz1 ht9 hvm hB
          refine W.cs (cells' := 0) (slots' := 0) rfl rfl ?_
          subst hw8
          have h01 : hasv (fbs j3) j6 = 0 ∨ hasv (fbs j3) j6 = 1 := hasv_01 _ _
          have hP9 := hP.sub (ws' := [(x0, .inr (0, [.ref n0, .ref f0, .ref w0, .ref u0, .ref q0])), (f0, .inr (2, [.int (nI pfc), .ref f1, .ref f2, .ref f3, .ref f4, .ref f5, .int (nI pfe), .ref f6, .ref f7, .ref f8, .ref f9, .ref f10, .int pfu, .int pfw])), (f4, .inl (cL, 60, .inr (.inl fbs)))]) [0, 1, 2] rfl
          have hD9 := hD.sub (ws' := [(x0, .inr (0, [.ref n0, .ref f0, .ref w0, .ref u0, .ref q0])), (f0, .inr (2, [.int (nI pfc), .ref f1, .ref f2, .ref f3, .ref f4, .ref f5, .int (nI pfe), .ref f6, .ref f7, .ref f8, .ref f9, .ref f10, .int pfu, .int pfw])), (f4, .inl (cL, 60, .inr (.inl fbs)))]) [0, 1, 2] (by decide) rfl
          subst hQ
          exact W.zret (v := hasv (fbs j3) j6) hx hb hr (bz_nar (by assumption)) (fun t9 ht9 hW => ⟨⟨hasv (fbs j3) j6, (), rfl, trivial, by rw [ht9]; exact hP9, hD9⟩, hS.F ht9⟩) hS.2.2 d_NU_concurrent_45
        · skip
          refine lv_iconst (v := 0) hx hb d_NU_concurrent_30 (by decide) ?_
          have hP9 := hP.sub (ws' := [(x0, .inr (0, [.ref n0, .ref f0, .ref w0, .ref u0, .ref q0])), (f0, .inr (2, [.int (nI pfc), .ref f1, .ref f2, .ref f3, .ref f4, .ref f5, .int (nI pfe), .ref f6, .ref f7, .ref f8, .ref f9, .ref f10, .int pfu, .int pfw])), (f4, .inl (cL, 60, .inr (.inl fbs)))]) [0, 1, 2] rfl
          have hD9 := hD.sub (ws' := [(x0, .inr (0, [.ref n0, .ref f0, .ref w0, .ref u0, .ref q0])), (f0, .inr (2, [.int (nI pfc), .ref f1, .ref f2, .ref f3, .ref f4, .ref f5, .int (nI pfe), .ref f6, .ref f7, .ref f8, .ref f9, .ref f10, .int pfu, .int pfw])), (f4, .inl (cL, 60, .inr (.inl fbs)))]) [0, 1, 2] (by decide) rfl
          subst hQ
          exact W.zret (v := 0) hx hb hr rfl (fun t9 ht9 hW => ⟨⟨0, (), rfl, trivial, by rw [ht9]; exact hP9, hD9⟩, hS.F ht9⟩) hS.2.2 d_NU_concurrent_31
