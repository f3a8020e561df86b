set_option maxHeartbeats 4000000 in
set_option maxRecDepth 100000 in
theorem e_NU_condition (l : Launch) (dC : Nat → ClassId) (dI : Nat → Nat → Nat) (cI cL cZ : ClassId) (sz : Nat) (x0 : Nat) (u0 : Nat) (n0 : Nat) (w0 : Nat) (f0 : Nat) (f1 : Nat) (f2 : Nat) (f3 : Nat) (f4 : Nat) (f5 : Nat) (f6 : Nat) (f7 : Nat) (f8 : Nat) (f9 : Nat) (f10 : Nat) (pfc : Nat) (pfe : Nat) (pfu : Int32) (pfw : Int32) (fpl : Nat → Int32) (fmk : Nat → Int32) (ftk : Nat → Int32) (q0 : Nat) (x : Int32) (y : Int32) (hpc : pfc ≤ 60) : Met l y_NU_condition (Cond.code y_NU_condition prog_1_method_13_code 3 (some .int) :: wsA) { frames := 1, cells := 0, slots := 0, locals := 20 } (va_Pc [.ref x0, .int x, .int y] (fun U => U.heap.size = sz ∧ va_P (dC, dI) clA [(x0, .inr (0, [.ref n0, .ref f0, .ref w0, .ref u0, .ref q0])), (f0, .inr (2, [.int (nI pfc), .ref f1, .ref f2, .ref f3, .ref f4, .ref f5, .int (nI pfe), .ref f6, .ref f7, .ref f8, .ref f9, .ref f10, .int pfu, .int pfw])), (f1, .inl (cI, 60, .inl fpl)), (f2, .inl (cI, 60, .inl fmk)), (f3, .inl (cI, 60, .inl ftk))] U.heap ∧ va_K (dC, dI) clA [(cI, .int), (cL, .long), (cZ, .boolean)] U ∧ va_D (fun _ => True) [(x0, .inr (0, [.ref n0, .ref f0, .ref w0, .ref u0, .ref q0])), (f0, .inr (2, [.int (nI pfc), .ref f1, .ref f2, .ref f3, .ref f4, .ref f5, .int (nI pfe), .ref f6, .ref f7, .ref f8, .ref f9, .ref f10, .int pfu, .int pfw])), (f1, .inl (cI, 60, .inl fpl)), (f2, .inl (cI, 60, .inl fmk)), (f3, .inl (cI, 60, .inl ftk))] ∧ NwA U)) (va_Qi (fun r (_ : Unit) => (r = cdV pfc fpl fmk (fun j => nI (pc32 (ftk j))) x y)) (fun _ t => va_P (dC, dI) clA [(x0, .inr (0, [.ref n0, .ref f0, .ref w0, .ref u0, .ref q0])), (f0, .inr (2, [.int (nI pfc), .ref f1, .ref f2, .ref f3, .ref f4, .ref f5, .int (nI pfe), .ref f6, .ref f7, .ref f8, .ref f9, .ref f10, .int pfu, .int pfw])), (f1, .inl (cI, 60, .inl fpl)), (f2, .inl (cI, 60, .inl fmk)), (f3, .inl (cI, 60, .inl ftk))] t.heap ∧ va_D (va_A [(x0, .inr (0, [.ref n0, .ref f0, .ref w0, .ref u0, .ref q0])), (f0, .inr (2, [.int (nI pfc), .ref f1, .ref f2, .ref f3, .ref f4, .ref f5, .int (nI pfe), .ref f6, .ref f7, .ref f8, .ref f9, .ref f10, .int pfu, .int pfw])), (f1, .inl (cI, 60, .inl fpl)), (f2, .inl (cI, 60, .inl fmk)), (f3, .inl (cI, 60, .inl ftk))] sz) [(x0, .inr (0, [.ref n0, .ref f0, .ref w0, .ref u0, .ref q0])), (f0, .inr (2, [.int (nI pfc), .ref f1, .ref f2, .ref f3, .ref f4, .ref f5, .int (nI pfe), .ref f6, .ref f7, .ref f8, .ref f9, .ref f10, .int pfu, .int pfw])), (f1, .inl (cI, 60, .inl fpl)), (f2, .inl (cI, 60, .inl fmk)), (f3, .inl (cI, 60, .inl ftk))]) (va_A [(x0, .inr (0, [.ref n0, .ref f0, .ref w0, .ref u0, .ref q0])), (f0, .inr (2, [.int (nI pfc), .ref f1, .ref f2, .ref f3, .ref f4, .ref f5, .int (nI pfe), .ref f6, .ref f7, .ref f8, .ref f9, .ref f10, .int pfu, .int pfw])), (f1, .inl (cI, 60, .inl fpl)), (f2, .inl (cI, 60, .inl fmk)), (f3, .inl (cI, 60, .inl ftk))] sz)) 0 0 (va_A [(x0, .inr (0, [.ref n0, .ref f0, .ref w0, .ref u0, .ref q0])), (f0, .inr (2, [.int (nI pfc), .ref f1, .ref f2, .ref f3, .ref f4, .ref f5, .int (nI pfe), .ref f6, .ref f7, .ref f8, .ref f9, .ref f10, .int pfu, .int pfw])), (f1, .inl (cI, 60, .inl fpl)), (f2, .inl (cI, 60, .inl fmk)), (f3, .inl (cI, 60, .inl ftk))] sz) := by
  refine Met.ofW (cc := prog_1_method_13_code) (maxL := 3) (ret := (some .int)) (by decide) rfl ?_
  intro p e s m args below meth c s₁ B hml hv
  obtain ⟨rfl, hsz, hP, hK, hD0, hN⟩ := hv
  have hx := B.exec
  have hb := B.bytes
  have hr := B.returns
  have ht : ∀ w ∈ wsA, w.before _ s = true := fun w h => atoms_spec (ws := (Cond.code y_NU_condition prog_1_method_13_code 3 (some .int) :: wsA)) B.pre w (List.mem_cons_of_mem _ h)
  have hown : s.vm.findClass "NetUnfolder" = some m.cls := findClass_of_methodNamed B.named
  have hlocks := B.notSynchronized
  subst hsz
  have hD := hD0.self (sz := s.heap.size)
  generalize hAe : va_A [(x0, .inr (0, [.ref n0, .ref f0, .ref w0, .ref u0, .ref q0])), (f0, .inr (2, [.int (nI pfc), .ref f1, .ref f2, .ref f3, .ref f4, .ref f5, .int (nI pfe), .ref f6, .ref f7, .ref f8, .ref f9, .ref f10, .int pfu, .int pfw])), (f1, .inl (cI, 60, .inl fpl)), (f2, .inl (cI, 60, .inl fmk)), (f3, .inl (cI, 60, .inl ftk))] s.heap.size = A at hD ⊢
  have hA : ∀ q : Nat, s.heap.size ≤ q → A q := fun q h => by rw [← hAe]; exact Or.inr h
  have hS : va_S A s.heap s.heap [] := va_S.rf
  have hl := lv_entry ([.ref x0, .int x, .int y]) (n := 3) (Nat.le_of_ble_eq_true rfl)
  rw [lg_entry_eq]
  generalize (lg_sl ([.ref x0, .int x, .int y]) ++ List.replicate (3 - (lg_sl ([.ref x0, .int x, .int y])).length) Slot.unset).toArray = ls at hl ⊢
  replace hl : lv_has ls 3 [(0, .ref x0), (1, .int x), (2, .int y)] := hl
  refine W_Q (fun Q hQ => ?_)
  refine lv_iload_n hx hb d_NU_condition_0 rfl (lv_at hl 1 rfl) ?_
  refine lv_if_lt (tgt := 15) hx hb d_NU_condition_1 (by decide) (fun hb1 => ?_) (fun hb1 => ?_)
  · skip
    refine lv_iconst (v := (-1)) hx hb d_NU_condition_15 (by decide) ?_
    have hP9 := hP.sub (ws' := [(x0, .inr (0, [.ref n0, .ref f0, .ref w0, .ref u0, .ref q0])), (f0, .inr (2, [.int (nI pfc), .ref f1, .ref f2, .ref f3, .ref f4, .ref f5, .int (nI pfe), .ref f6, .ref f7, .ref f8, .ref f9, .ref f10, .int pfu, .int pfw])), (f1, .inl (cI, 60, .inl fpl)), (f2, .inl (cI, 60, .inl fmk)), (f3, .inl (cI, 60, .inl ftk))]) [0, 1, 2, 3, 4] rfl
    have hD9 := hD.sub (ws' := [(x0, .inr (0, [.ref n0, .ref f0, .ref w0, .ref u0, .ref q0])), (f0, .inr (2, [.int (nI pfc), .ref f1, .ref f2, .ref f3, .ref f4, .ref f5, .int (nI pfe), .ref f6, .ref f7, .ref f8, .ref f9, .ref f10, .int pfu, .int pfw])), (f1, .inl (cI, 60, .inl fpl)), (f2, .inl (cI, 60, .inl fmk)), (f3, .inl (cI, 60, .inl ftk))]) [0, 1, 2, 3, 4] (by decide) rfl
    subst hQ
    exact W.iret (v := (-1)) hx hb hr (fun t9 ht9 hW => ⟨⟨(-1), (), rfl, (cdV_out (Or.inl hb1)), by rw [ht9]; exact hP9, hD9⟩, hS.F ht9⟩) hS.2.2 d_NU_condition_16
  · skip
    refine lv_iload_n hx hb d_NU_condition_4 rfl (lv_at hl 1 rfl) ?_
    refine lv_aload_n hx hb d_NU_condition_5 rfl (lv_at hl 0 rfl) ?_
    refine va_get (D := (dC, dI)) (ci := 0) (v := .ref f0) (C := "NetUnfolder") (T := T_NU) (N := 5) hx hb ht in_NU hown hK hP 0 rfl rfl 1 (by decide) (ht _ wd_2_37) (fun _ h9 => h9) rfl d_NU_condition_6 ?_
    refine va_get (D := (dC, dI)) (ci := 2) (v := .int (nI pfc)) (C := "NetUnfolder$Prefix") (T := T_Pf) (N := 14) hx hb ht in_Pf hown hK hP 1 rfl rfl 0 (by decide) (ht _ wd_1_65) (fun _ h9 => h9) rfl d_NU_condition_9 ?_
    refine lv_icmp_lt (tgt := 17) hx hb d_NU_condition_12 (by decide) (fun hb2 => ?_) (fun hb2 => ?_)
    · skip
      obtain ⟨j3, j3_l, rfl⟩ := ix_of (by omega) hb1 hb2
      refine lv_iload_n hx hb d_NU_condition_17 rfl (lv_at hl 2 rfl) ?_
      by_cases hv4 : y = 0
      · refine lv_tableIn (off := 26) (tgt := 44) hx hb d_NU_condition_18 (by rw [hv4]; decide) (by rw [hv4]; decide) (by rw [hv4]; decide) (by decide) ?_
        refine lv_aload_n hx hb d_NU_condition_44 rfl (lv_at hl 0 rfl) ?_
        refine va_get (D := (dC, dI)) (ci := 0) (v := .ref f0) (C := "NetUnfolder") (T := T_NU) (N := 5) hx hb ht in_NU hown hK hP 0 rfl rfl 1 (by decide) (ht _ wd_2_37) (fun _ h9 => h9) rfl d_NU_condition_45 ?_
        refine va_get (D := (dC, dI)) (ci := 2) (v := .ref f1) (C := "NetUnfolder$Prefix") (T := T_Pf) (N := 14) hx hb ht in_Pf hown hK hP 1 rfl rfl 1 (by decide) (ht _ wd_1_69) (fun _ h9 => h9) rfl d_NU_condition_48 ?_
        refine lv_iload_n hx hb d_NU_condition_51 rfl (lv_at hl 1 rfl) ?_
        refine na_iald (k := j3) hx hb hK hP 2 0 rfl rfl (by omega) (by decide) d_NU_condition_52 ?_
        have hP9 := hP.sub (ws' := [(x0, .inr (0, [.ref n0, .ref f0, .ref w0, .ref u0, .ref q0])), (f0, .inr (2, [.int (nI pfc), .ref f1, .ref f2, .ref f3, .ref f4, .ref f5, .int (nI pfe), .ref f6, .ref f7, .ref f8, .ref f9, .ref f10, .int pfu, .int pfw])), (f1, .inl (cI, 60, .inl fpl)), (f2, .inl (cI, 60, .inl fmk)), (f3, .inl (cI, 60, .inl ftk))]) [0, 1, 2, 3, 4] rfl
        have hD9 := hD.sub (ws' := [(x0, .inr (0, [.ref n0, .ref f0, .ref w0, .ref u0, .ref q0])), (f0, .inr (2, [.int (nI pfc), .ref f1, .ref f2, .ref f3, .ref f4, .ref f5, .int (nI pfe), .ref f6, .ref f7, .ref f8, .ref f9, .ref f10, .int pfu, .int pfw])), (f1, .inl (cI, 60, .inl fpl)), (f2, .inl (cI, 60, .inl fmk)), (f3, .inl (cI, 60, .inl ftk))]) [0, 1, 2, 3, 4] (by decide) rfl
        subst hQ
        exact W.iret (v := fpl j3) hx hb hr (fun t9 ht9 hW => ⟨⟨fpl j3, (), rfl, (cdV_0 j3_l (by omega) (by assumption) rfl), by rw [ht9]; exact hP9, hD9⟩, hS.F ht9⟩) hS.2.2 d_NU_condition_53
      by_cases hv5 : y = 1
      · refine lv_tableIn (off := 36) (tgt := 54) hx hb d_NU_condition_18 (by rw [hv5]; decide) (by rw [hv5]; decide) (by rw [hv5]; decide) (by decide) ?_
        refine lv_aload_n hx hb d_NU_condition_54 rfl (lv_at hl 0 rfl) ?_
        refine va_get (D := (dC, dI)) (ci := 0) (v := .ref f0) (C := "NetUnfolder") (T := T_NU) (N := 5) hx hb ht in_NU hown hK hP 0 rfl rfl 1 (by decide) (ht _ wd_2_37) (fun _ h9 => h9) rfl d_NU_condition_55 ?_
        refine va_get (D := (dC, dI)) (ci := 2) (v := .ref f2) (C := "NetUnfolder$Prefix") (T := T_Pf) (N := 14) hx hb ht in_Pf hown hK hP 1 rfl rfl 2 (by decide) (ht _ wd_1_72) (fun _ h9 => h9) rfl d_NU_condition_58 ?_
        refine lv_iload_n hx hb d_NU_condition_61 rfl (lv_at hl 1 rfl) ?_
        refine na_iald (k := j3) hx hb hK hP 3 0 rfl rfl (by omega) (by decide) d_NU_condition_62 ?_
        have hP9 := hP.sub (ws' := [(x0, .inr (0, [.ref n0, .ref f0, .ref w0, .ref u0, .ref q0])), (f0, .inr (2, [.int (nI pfc), .ref f1, .ref f2, .ref f3, .ref f4, .ref f5, .int (nI pfe), .ref f6, .ref f7, .ref f8, .ref f9, .ref f10, .int pfu, .int pfw])), (f1, .inl (cI, 60, .inl fpl)), (f2, .inl (cI, 60, .inl fmk)), (f3, .inl (cI, 60, .inl ftk))]) [0, 1, 2, 3, 4] rfl
        have hD9 := hD.sub (ws' := [(x0, .inr (0, [.ref n0, .ref f0, .ref w0, .ref u0, .ref q0])), (f0, .inr (2, [.int (nI pfc), .ref f1, .ref f2, .ref f3, .ref f4, .ref f5, .int (nI pfe), .ref f6, .ref f7, .ref f8, .ref f9, .ref f10, .int pfu, .int pfw])), (f1, .inl (cI, 60, .inl fpl)), (f2, .inl (cI, 60, .inl fmk)), (f3, .inl (cI, 60, .inl ftk))]) [0, 1, 2, 3, 4] (by decide) rfl
        subst hQ
        exact W.iret (v := fmk j3) hx hb hr (fun t9 ht9 hW => ⟨⟨fmk j3, (), rfl, (cdV_1 j3_l (by omega) (by assumption) rfl), by rw [ht9]; exact hP9, hD9⟩, hS.F ht9⟩) hS.2.2 d_NU_condition_63
      by_cases hv6 : y = 2
      · refine lv_tableIn (off := 46) (tgt := 64) hx hb d_NU_condition_18 (by rw [hv6]; decide) (by rw [hv6]; decide) (by rw [hv6]; decide) (by decide) ?_
        refine lv_aload_n hx hb d_NU_condition_64 rfl (lv_at hl 0 rfl) ?_
        refine va_get (D := (dC, dI)) (ci := 0) (v := .ref f0) (C := "NetUnfolder") (T := T_NU) (N := 5) hx hb ht in_NU hown hK hP 0 rfl rfl 1 (by decide) (ht _ wd_2_37) (fun _ h9 => h9) rfl d_NU_condition_65 ?_
        refine va_get (D := (dC, dI)) (ci := 2) (v := .ref f3) (C := "NetUnfolder$Prefix") (T := T_Pf) (N := 14) hx hb ht in_Pf hown hK hP 1 rfl rfl 3 (by decide) (ht _ wd_1_75) (fun _ h9 => h9) rfl d_NU_condition_68 ?_
        refine lv_iload_n hx hb d_NU_condition_71 rfl (lv_at hl 1 rfl) ?_
        refine na_iald (k := j3) hx hb hK hP 4 0 rfl rfl (by omega) (by decide) d_NU_condition_72 ?_
        have hPc : va_P (dC, dI) clA [] _ := pu_P (H := s.heap)
        have hDc : va_D (fun _ => True) [] := pu_D
        have hFc := pu_free hS hA
        refine va_calli (va_runS (As := [.int (ftk j3)]) (rest := []) ⟨hx, hb, hml, hown, ht⟩ (e_Ig_bitCount l dC dI cI cL cZ _ (ftk j3) ) (va_cwS 1 ht (good_S wd_2_206 wd_2_125 wd_1_17 wd_2_126) rfl rfl rfl (by decide +kernel) ⟨Nat.le_of_ble_eq_true rfl, Nat.le_of_ble_eq_true rfl⟩) ⟨fun a U g mk q => by obtain ⟨q0, q1, qP, qK, qD, qN⟩ := q; exact ⟨q0, q1, qP, va_K.moved (u := U) (U := U.calling g mk a) (Vm.Alike.refl U.vm) qK, qD, NwA.same (u := U) rfl qN⟩, fun U hU hW => ⟨rfl, by rw [hU], by rw [hU]; exact hPc, va_K.moved hW.alike hK, hDc.weaken (fun _ _ _ _ => trivial), NwA.warm hW hN⟩⟩ rfl rfl hl.1 rfl (lv_room (Nat.le_of_ble_eq_true rfl)) d_NU_condition_73 ⟨Nat.le_of_ble_eq_true rfl, Nat.le_of_ble_eq_true rfl⟩) hS (fun q _ h => hFc q h) hFc (fun r9 u9 t9 H7 locs ht9 hvm hw8 hB hz1 hk1 hSn => ?_)
        replace hP : va_P (dC, dI) clA [(x0, .inr (0, [.ref n0, .ref f0, .ref w0, .ref u0, .ref q0])), (f0, .inr (2, [.int (nI pfc), .ref f1, .ref f2, .ref f3, .ref f4, .ref f5, .int (nI pfe), .ref f6, .ref f7, .ref f8, .ref f9, .ref f10, .int pfu, .int pfw])), (f1, .inl (cI, 60, .inl fpl)), (f2, .inl (cI, 60, .inl fmk)), (f3, .inl (cI, 60, .inl ftk))] H7 := pu_keep hP hk1
        replace hS := hSn
        clear hSn hPc hDc hFc hk1 hz1 ht9 hvm hB
        refine W.cs (cells' := 0) (slots' := 0) rfl rfl ?_
        subst hw8
        have hP9 := hP.sub (ws' := [(x0, .inr (0, [.ref n0, .ref f0, .ref w0, .ref u0, .ref q0])), (f0, .inr (2, [.int (nI pfc), .ref f1, .ref f2, .ref f3, .ref f4, .ref f5, .int (nI pfe), .ref f6, .ref f7, .ref f8, .ref f9, .ref f10, .int pfu, .int pfw])), (f1, .inl (cI, 60, .inl fpl)), (f2, .inl (cI, 60, .inl fmk)), (f3, .inl (cI, 60, .inl ftk))]) [0, 1, 2, 3, 4] rfl
        have hD9 := hD.sub (ws' := [(x0, .inr (0, [.ref n0, .ref f0, .ref w0, .ref u0, .ref q0])), (f0, .inr (2, [.int (nI pfc), .ref f1, .ref f2, .ref f3, .ref f4, .ref f5, .int (nI pfe), .ref f6, .ref f7, .ref f8, .ref f9, .ref f10, .int pfu, .int pfw])), (f1, .inl (cI, 60, .inl fpl)), (f2, .inl (cI, 60, .inl fmk)), (f3, .inl (cI, 60, .inl ftk))]) [0, 1, 2, 3, 4] (by decide) rfl
        subst hQ
        exact W.iret (v := nI (pc32 (ftk j3))) hx hb hr (fun t9 ht9 hW => ⟨⟨nI (pc32 (ftk j3)), (), rfl, (cdV_2 j3_l (by omega) (by assumption) rfl), by rw [ht9]; exact hP9, hD9⟩, hS.F ht9⟩) hS.2.2 d_NU_condition_76
      refine lv_tableOut (tgt := 77) hx hb d_NU_condition_18 (by have ehv4 := fa_ne (k := 0) (by decide) hv4; have ehv5 := fa_ne (k := 1) (by decide) hv5; have ehv6 := fa_ne (k := 2) (by decide) hv6; omega) (by decide) ?_
      refine lv_iconst (v := (-1)) hx hb d_NU_condition_77 (by decide) ?_
      have hP9 := hP.sub (ws' := [(x0, .inr (0, [.ref n0, .ref f0, .ref w0, .ref u0, .ref q0])), (f0, .inr (2, [.int (nI pfc), .ref f1, .ref f2, .ref f3, .ref f4, .ref f5, .int (nI pfe), .ref f6, .ref f7, .ref f8, .ref f9, .ref f10, .int pfu, .int pfw])), (f1, .inl (cI, 60, .inl fpl)), (f2, .inl (cI, 60, .inl fmk)), (f3, .inl (cI, 60, .inl ftk))]) [0, 1, 2, 3, 4] rfl
      have hD9 := hD.sub (ws' := [(x0, .inr (0, [.ref n0, .ref f0, .ref w0, .ref u0, .ref q0])), (f0, .inr (2, [.int (nI pfc), .ref f1, .ref f2, .ref f3, .ref f4, .ref f5, .int (nI pfe), .ref f6, .ref f7, .ref f8, .ref f9, .ref f10, .int pfu, .int pfw])), (f1, .inl (cI, 60, .inl fpl)), (f2, .inl (cI, 60, .inl fmk)), (f3, .inl (cI, 60, .inl ftk))]) [0, 1, 2, 3, 4] (by decide) rfl
      subst hQ
      exact W.iret (v := (-1)) hx hb hr (fun t9 ht9 hW => ⟨⟨(-1), (), rfl, (cdV_n (by assumption) (by assumption) (by assumption)), by rw [ht9]; exact hP9, hD9⟩, hS.F ht9⟩) hS.2.2 d_NU_condition_78
    · skip
      refine lv_iconst (v := (-1)) hx hb d_NU_condition_15 (by decide) ?_
      have hP9 := hP.sub (ws' := [(x0, .inr (0, [.ref n0, .ref f0, .ref w0, .ref u0, .ref q0])), (f0, .inr (2, [.int (nI pfc), .ref f1, .ref f2, .ref f3, .ref f4, .ref f5, .int (nI pfe), .ref f6, .ref f7, .ref f8, .ref f9, .ref f10, .int pfu, .int pfw])), (f1, .inl (cI, 60, .inl fpl)), (f2, .inl (cI, 60, .inl fmk)), (f3, .inl (cI, 60, .inl ftk))]) [0, 1, 2, 3, 4] rfl
      have hD9 := hD.sub (ws' := [(x0, .inr (0, [.ref n0, .ref f0, .ref w0, .ref u0, .ref q0])), (f0, .inr (2, [.int (nI pfc), .ref f1, .ref f2, .ref f3, .ref f4, .ref f5, .int (nI pfe), .ref f6, .ref f7, .ref f8, .ref f9, .ref f10, .int pfu, .int pfw])), (f1, .inl (cI, 60, .inl fpl)), (f2, .inl (cI, 60, .inl fmk)), (f3, .inl (cI, 60, .inl ftk))]) [0, 1, 2, 3, 4] (by decide) rfl
      subst hQ
      exact W.iret (v := (-1)) hx hb hr (fun t9 ht9 hW => ⟨⟨(-1), (), rfl, (cdV_out (Or.inr hb2)), by rw [ht9]; exact hP9, hD9⟩, hS.F ht9⟩) hS.2.2 d_NU_condition_16

set_option maxHeartbeats 4000000 in
set_option maxRecDepth 100000 in
theorem e_Mo_cond (l : Launch) (dC : Nat → ClassId) (dI : Nat → Nat → Nat) (cI cL cZ : ClassId) (sz : Nat) (m0 : Nat) (m1 : Nat) (m2 : Nat) (m3 : Nat) (m4 : Nat) (m5 : Nat) (m6 : Nat) (m7 : Nat) (m8 : Nat) (m9 : Nat) (m10 : Nat) (m11 : Nat) (m12 : Nat) (m13 : Nat) (m14 : Nat) (m15 : Nat) (m16 : Nat) (m17 : Nat) (mth : Int32) (mt : Nat) (mf : Int32) (mcd : Nat) (mev : Nat) (mwh : Int32) (mps : Int32) (mlr : Int64) (mlt : Nat) (mlm : Nat) (mln : Int32) (gpl : Nat → Int32) (gmk : Nat → Int32) (gtn : Nat → Int64) (x : Int32) (y : Int32) (hev : mev ≤ 30) (hcd : mcd ≤ 60) : Met l y_Mo_condition_II (Cond.code y_Mo_condition_II prog_11_method_40_code 5 (some .int) :: wsA) { frames := 1, cells := 0, slots := 0, locals := 22 } (va_Pc [.ref m0, .int x, .int y] (fun U => U.heap.size = sz ∧ va_P (dC, dI) clA [(m0, .inr (9, [.int mth, .int (nI mt), .ref m1, .ref m2, .int mf, .int (nI mcd), .ref m3, .ref m4, .ref m5, .ref m6, .int (nI mev), .ref m7, .ref m8, .ref m9, .ref m10, .ref m11, .ref m12, .ref m13, .int mwh, .int mps, .ref m14, .ref m15, .long mlr, .int (nI mlt), .int (nI mlm), .ref m16, .int mln, .ref m17])), (m9, .inl (cL, 30, .inr (.inl gtn))), (m3, .inl (cI, 60, .inl gpl)), (m4, .inl (cI, 60, .inl gmk))] U.heap ∧ va_K (dC, dI) clA [(cI, .int), (cL, .long), (cZ, .boolean)] U ∧ va_D (fun _ => True) [(m0, .inr (9, [.int mth, .int (nI mt), .ref m1, .ref m2, .int mf, .int (nI mcd), .ref m3, .ref m4, .ref m5, .ref m6, .int (nI mev), .ref m7, .ref m8, .ref m9, .ref m10, .ref m11, .ref m12, .ref m13, .int mwh, .int mps, .ref m14, .ref m15, .long mlr, .int (nI mlt), .int (nI mlm), .ref m16, .int mln, .ref m17])), (m9, .inl (cL, 30, .inr (.inl gtn))), (m3, .inl (cI, 60, .inl gpl)), (m4, .inl (cI, 60, .inl gmk))] ∧ NwA U)) (va_Qi (fun r (_ : Unit) => (r = cdV mcd gpl gmk (fun j => nI (cnt mev (fun e => decide (¬ hasv (gtn e) j = 0)))) x y)) (fun _ t => va_P (dC, dI) clA [(m0, .inr (9, [.int 0, .int (nI mt), .ref m1, .ref m2, .int mf, .int (nI mcd), .ref m3, .ref m4, .ref m5, .ref m6, .int (nI mev), .ref m7, .ref m8, .ref m9, .ref m10, .ref m11, .ref m12, .ref m13, .int mwh, .int mps, .ref m14, .ref m15, .long mlr, .int (nI mlt), .int (nI mlm), .ref m16, .int mln, .ref m17])), (m9, .inl (cL, 30, .inr (.inl gtn))), (m3, .inl (cI, 60, .inl gpl)), (m4, .inl (cI, 60, .inl gmk))] t.heap ∧ va_D (va_A [(m0, .inr (9, [.int mth, .int (nI mt), .ref m1, .ref m2, .int mf, .int (nI mcd), .ref m3, .ref m4, .ref m5, .ref m6, .int (nI mev), .ref m7, .ref m8, .ref m9, .ref m10, .ref m11, .ref m12, .ref m13, .int mwh, .int mps, .ref m14, .ref m15, .long mlr, .int (nI mlt), .int (nI mlm), .ref m16, .int mln, .ref m17])), (m9, .inl (cL, 30, .inr (.inl gtn))), (m3, .inl (cI, 60, .inl gpl)), (m4, .inl (cI, 60, .inl gmk))] sz) [(m0, .inr (9, [.int 0, .int (nI mt), .ref m1, .ref m2, .int mf, .int (nI mcd), .ref m3, .ref m4, .ref m5, .ref m6, .int (nI mev), .ref m7, .ref m8, .ref m9, .ref m10, .ref m11, .ref m12, .ref m13, .int mwh, .int mps, .ref m14, .ref m15, .long mlr, .int (nI mlt), .int (nI mlm), .ref m16, .int mln, .ref m17])), (m9, .inl (cL, 30, .inr (.inl gtn))), (m3, .inl (cI, 60, .inl gpl)), (m4, .inl (cI, 60, .inl gmk))]) (va_A [(m0, .inr (9, [.int mth, .int (nI mt), .ref m1, .ref m2, .int mf, .int (nI mcd), .ref m3, .ref m4, .ref m5, .ref m6, .int (nI mev), .ref m7, .ref m8, .ref m9, .ref m10, .ref m11, .ref m12, .ref m13, .int mwh, .int mps, .ref m14, .ref m15, .long mlr, .int (nI mlt), .int (nI mlm), .ref m16, .int mln, .ref m17])), (m9, .inl (cL, 30, .inr (.inl gtn))), (m3, .inl (cI, 60, .inl gpl)), (m4, .inl (cI, 60, .inl gmk))] sz)) 0 0 (va_A [(m0, .inr (9, [.int mth, .int (nI mt), .ref m1, .ref m2, .int mf, .int (nI mcd), .ref m3, .ref m4, .ref m5, .ref m6, .int (nI mev), .ref m7, .ref m8, .ref m9, .ref m10, .ref m11, .ref m12, .ref m13, .int mwh, .int mps, .ref m14, .ref m15, .long mlr, .int (nI mlt), .int (nI mlm), .ref m16, .int mln, .ref m17])), (m9, .inl (cL, 30, .inr (.inl gtn))), (m3, .inl (cI, 60, .inl gpl)), (m4, .inl (cI, 60, .inl gmk))] sz) := by
  refine Met.ofW (cc := prog_11_method_40_code) (maxL := 5) (ret := (some .int)) (by decide) rfl ?_
  intro p e s m args below meth c s₁ B hml hv
  obtain ⟨rfl, hsz, hP, hK, hD0, hN⟩ := hv
  have hx := B.exec
  have hb := B.bytes
  have hr := B.returns
  have ht : ∀ w ∈ wsA, w.before _ s = true := fun w h => atoms_spec (ws := (Cond.code y_Mo_condition_II prog_11_method_40_code 5 (some .int) :: wsA)) B.pre w (List.mem_cons_of_mem _ h)
  have hown : s.vm.findClass "NetUnfolderModel" = some m.cls := findClass_of_methodNamed B.named
  have hlocks := B.notSynchronized
  subst hsz
  have hD := hD0.self (sz := s.heap.size)
  generalize hAe : va_A [(m0, .inr (9, [.int mth, .int (nI mt), .ref m1, .ref m2, .int mf, .int (nI mcd), .ref m3, .ref m4, .ref m5, .ref m6, .int (nI mev), .ref m7, .ref m8, .ref m9, .ref m10, .ref m11, .ref m12, .ref m13, .int mwh, .int mps, .ref m14, .ref m15, .long mlr, .int (nI mlt), .int (nI mlm), .ref m16, .int mln, .ref m17])), (m9, .inl (cL, 30, .inr (.inl gtn))), (m3, .inl (cI, 60, .inl gpl)), (m4, .inl (cI, 60, .inl gmk))] s.heap.size = A at hD ⊢
  have hA : ∀ q : Nat, s.heap.size ≤ q → A q := fun q h => by rw [← hAe]; exact Or.inr h
  have hS : va_S A s.heap s.heap [] := va_S.rf
  have hl := lv_entry ([.ref m0, .int x, .int y]) (n := 5) (Nat.le_of_ble_eq_true rfl)
  rw [lg_entry_eq]
  generalize (lg_sl ([.ref m0, .int x, .int y]) ++ List.replicate (5 - (lg_sl ([.ref m0, .int x, .int y])).length) Slot.unset).toArray = ls at hl ⊢
  replace hl : lv_has ls 5 [(0, .ref m0), (1, .int x), (2, .int y)] := hl
  refine W_Q (fun Q hQ => ?_)
  refine lv_aload_n hx hb d_Mo_condition_II_0 rfl (lv_at hl 0 rfl) ?_
  refine lv_iconst (v := 0) hx hb d_Mo_condition_II_1 (by decide) ?_
  refine va_put (D := (dC, dI)) (ci := 9) (v := .int 0) (ty := .int) (C := "NetUnfolderModel") (T := T_Mo) (N := 28) hx hb ht in_Mo ty_Mo ok_Mo nm_Mo hown hK hP hD hS 0 rfl rfl 0 (by decide) (ht _ wd_4_0) (fun _ h9 => h9) rfl (by decide +kernel) rfl rfl (Nat.le_of_ble_eq_true rfl) d_Mo_condition_II_2 (fun H1 locs hPn hDn hSn => ?_)
  replace hP : va_P (dC, dI) clA [(m0, .inr (9, [.int 0, .int (nI mt), .ref m1, .ref m2, .int mf, .int (nI mcd), .ref m3, .ref m4, .ref m5, .ref m6, .int (nI mev), .ref m7, .ref m8, .ref m9, .ref m10, .ref m11, .ref m12, .ref m13, .int mwh, .int mps, .ref m14, .ref m15, .long mlr, .int (nI mlt), .int (nI mlm), .ref m16, .int mln, .ref m17])), (m9, .inl (cL, 30, .inr (.inl gtn))), (m3, .inl (cI, 60, .inl gpl)), (m4, .inl (cI, 60, .inl gmk))] H1 := hPn
  replace hD : va_D A [(m0, .inr (9, [.int 0, .int (nI mt), .ref m1, .ref m2, .int mf, .int (nI mcd), .ref m3, .ref m4, .ref m5, .ref m6, .int (nI mev), .ref m7, .ref m8, .ref m9, .ref m10, .ref m11, .ref m12, .ref m13, .int mwh, .int mps, .ref m14, .ref m15, .long mlr, .int (nI mlt), .int (nI mlm), .ref m16, .int mln, .ref m17])), (m9, .inl (cL, 30, .inr (.inl gtn))), (m3, .inl (cI, 60, .inl gpl)), (m4, .inl (cI, 60, .inl gmk))] := hDn
  replace hS := hSn
  clear hPn hDn hSn
  refine lv_iload_n hx hb d_Mo_condition_II_5 rfl (lv_at hl 1 rfl) ?_
  refine lv_iconst (v := 0) hx hb d_Mo_condition_II_6 (by decide) ?_
  refine lv_aload_n hx hb d_Mo_condition_II_7 rfl (lv_at hl 0 rfl) ?_
  refine va_get (D := (dC, dI)) (ci := 9) (v := .int (nI mcd)) (C := "NetUnfolderModel") (T := T_Mo) (N := 28) hx hb ht in_Mo hown hK hP 0 rfl rfl 5 (by decide) (ht _ wd_4_5) (fun _ h9 => h9) rfl d_Mo_condition_II_8 ?_
  refine lv_iconst (v := 1) hx hb d_Mo_condition_II_11 (by decide) ?_
  refine lv_isub hx hb d_Mo_condition_II_12 ?_
  have hPc : va_P (dC, dI) clA [] _ := pu_P (H := H1)
  have hDc : va_D (fun _ => True) [] := pu_D
  have hFc := pu_free hS hA
  refine va_calli (va_runS (As := [.int x, .int 0, .int ((nI mcd) - 1)]) (rest := []) ⟨hx, hb, hml, hown, ht⟩ (c_Mo_outside l dC dI cI cL cZ _ x 0 ((nI mcd) - 1) ) (va_cwS 3 ht (good_S wd_4_90 wd_4_91 wd_1_10 wd_4_92) rfl rfl rfl (by decide +kernel) ⟨Nat.le_of_ble_eq_true rfl, Nat.le_of_ble_eq_true rfl⟩) ⟨fun a U g mk q => by obtain ⟨q0, q1, qP, qK, qD, qN⟩ := q; exact ⟨q0, q1, qP, va_K.moved (u := U) (U := U.calling g mk a) (Vm.Alike.refl U.vm) qK, qD, NwA.same (u := U) rfl qN⟩, fun U hU hW => ⟨rfl, by rw [hU], by rw [hU]; exact hPc, va_K.moved hW.alike hK, hDc.weaken (fun _ _ _ _ => trivial), NwA.warm hW hN⟩⟩ rfl rfl hl.1 rfl (lv_room (Nat.le_of_ble_eq_true rfl)) d_Mo_condition_II_13 ⟨Nat.le_of_ble_eq_true rfl, Nat.le_of_ble_eq_true rfl⟩) hS (fun q _ h => hFc q h) hFc (fun r4 u9 t9 H2 locs ht9 hvm hw3 hB hz1 hk1 hSn => ?_)
  replace hP : va_P (dC, dI) clA [(m0, .inr (9, [.int 0, .int (nI mt), .ref m1, .ref m2, .int mf, .int (nI mcd), .ref m3, .ref m4, .ref m5, .ref m6, .int (nI mev), .ref m7, .ref m8, .ref m9, .ref m10, .ref m11, .ref m12, .ref m13, .int mwh, .int mps, .ref m14, .ref m15, .long mlr, .int (nI mlt), .int (nI mlm), .ref m16, .int mln, .ref m17])), (m9, .inl (cL, 30, .inr (.inl gtn))), (m3, .inl (cI, 60, .inl gpl)), (m4, .inl (cI, 60, .inl gmk))] H2 := pu_keep hP hk1
  replace hS := hSn
  clear hSn hPc hDc hFc hk1 hz1 ht9 hvm hB
  refine W.cs (cells' := 0) (slots' := 0) rfl rfl ?_
  have hr5 := hw3
  refine lv_if_ne (tgt := 28) hx hb d_Mo_condition_II_16 (by decide) (fun hb6 => ?_) (fun hb6 => ?_)
  · skip
    refine lv_iconst (v := (-1)) hx hb d_Mo_condition_II_28 (by decide) ?_
    have hP9 := hP.sub (ws' := [(m0, .inr (9, [.int 0, .int (nI mt), .ref m1, .ref m2, .int mf, .int (nI mcd), .ref m3, .ref m4, .ref m5, .ref m6, .int (nI mev), .ref m7, .ref m8, .ref m9, .ref m10, .ref m11, .ref m12, .ref m13, .int mwh, .int mps, .ref m14, .ref m15, .long mlr, .int (nI mlt), .int (nI mlm), .ref m16, .int mln, .ref m17])), (m9, .inl (cL, 30, .inr (.inl gtn))), (m3, .inl (cI, 60, .inl gpl)), (m4, .inl (cI, 60, .inl gmk))]) [0, 1, 2, 3] rfl
    have hD9 := hD.sub (ws' := [(m0, .inr (9, [.int 0, .int (nI mt), .ref m1, .ref m2, .int mf, .int (nI mcd), .ref m3, .ref m4, .ref m5, .ref m6, .int (nI mev), .ref m7, .ref m8, .ref m9, .ref m10, .ref m11, .ref m12, .ref m13, .int mwh, .int mps, .ref m14, .ref m15, .long mlr, .int (nI mlt), .int (nI mlm), .ref m16, .int mln, .ref m17])), (m9, .inl (cL, 30, .inr (.inl gtn))), (m3, .inl (cI, 60, .inl gpl)), (m4, .inl (cI, 60, .inl gmk))]) [0, 1, 2, 3] (by decide) rfl
    subst hQ
    exact W.iret (v := (-1)) hx hb hr (fun t9 ht9 hW => ⟨⟨(-1), (), rfl, (cdV_out (out_ge (by omega) (out_1 hr5 hb6))), by rw [ht9]; exact hP9, hD9⟩, hS.F ht9⟩) hS.2.2 d_Mo_condition_II_29
  · skip
    have ho8 := out_0 hr5 hb6
    obtain ⟨j7, j7_l, rfl⟩ := ix_out (by omega) ho8.1 ho8.2
    refine lv_iload_n hx hb d_Mo_condition_II_19 rfl (lv_at hl 2 rfl) ?_
    refine lv_iconst (v := 0) hx hb d_Mo_condition_II_20 (by decide) ?_
    refine lv_iconst (v := 2) hx hb d_Mo_condition_II_21 (by decide) ?_
    have hPc : va_P (dC, dI) clA [] _ := pu_P (H := H2)
    have hDc : va_D (fun _ => True) [] := pu_D
    have hFc := pu_free hS hA
    refine va_calli (va_runS (As := [.int y, .int 0, .int 2]) (rest := []) ⟨hx, hb, hml, hown, ht⟩ (c_Mo_outside l dC dI cI cL cZ _ y 0 2 ) (va_cwS 3 ht (good_S wd_4_90 wd_4_91 wd_1_10 wd_4_92) rfl rfl rfl (by decide +kernel) ⟨Nat.le_of_ble_eq_true rfl, Nat.le_of_ble_eq_true rfl⟩) ⟨fun a U g mk q => by obtain ⟨q0, q1, qP, qK, qD, qN⟩ := q; exact ⟨q0, q1, qP, va_K.moved (u := U) (U := U.calling g mk a) (Vm.Alike.refl U.vm) qK, qD, NwA.same (u := U) rfl qN⟩, fun U hU hW => ⟨rfl, by rw [hU], by rw [hU]; exact hPc, va_K.moved hW.alike hK, hDc.weaken (fun _ _ _ _ => trivial), NwA.warm hW hN⟩⟩ rfl rfl hl.1 rfl (lv_room (Nat.le_of_ble_eq_true rfl)) d_Mo_condition_II_22 ⟨Nat.le_of_ble_eq_true rfl, Nat.le_of_ble_eq_true rfl⟩) hS (fun q _ h => hFc q h) hFc (fun r11 u9 t9 H9 locs ht9 hvm hw10 hB hz1 hk1 hSn => ?_)
    replace hP : va_P (dC, dI) clA [(m0, .inr (9, [.int 0, .int (nI mt), .ref m1, .ref m2, .int mf, .int (nI mcd), .ref m3, .ref m4, .ref m5, .ref m6, .int (nI mev), .ref m7, .ref m8, .ref m9, .ref m10, .ref m11, .ref m12, .ref m13, .int mwh, .int mps, .ref m14, .ref m15, .long mlr, .int (nI mlt), .int (nI mlm), .ref m16, .int mln, .ref m17])), (m9, .inl (cL, 30, .inr (.inl gtn))), (m3, .inl (cI, 60, .inl gpl)), (m4, .inl (cI, 60, .inl gmk))] H9 := pu_keep hP hk1
    replace hS := hSn
    clear hSn hPc hDc hFc hk1 hz1 ht9 hvm hB
    refine W.cs (cells' := 0) (slots' := 0) rfl rfl ?_
    have hr12 := hw10
    refine lv_if_eq (tgt := 30) hx hb d_Mo_condition_II_25 (by decide) (fun hb13 => ?_) (fun hb13 => ?_)
    · skip
      refine lv_iconst (v := 0) hx hb d_Mo_condition_II_30 (by decide) ?_
      refine lv_istore_n (lv' := [(3, .int 0), (0, .ref m0), (1, .int (nI j7)), (2, .int y)]) hx hb d_Mo_condition_II_31 rfl hl (by decide) rfl (fun ls hln => ?_)
      replace hl : lv_has ls 5 [(3, .int 0), (0, .ref m0), (1, .int (nI j7)), (2, .int y)] := hln
      clear hln
      refine lv_iconst (v := 0) hx hb d_Mo_condition_II_32 (by decide) ?_
      refine lv_istore (lv' := [(4, .int 0), (3, .int 0), (0, .ref m0), (1, .int (nI j7)), (2, .int y)]) hx hb d_Mo_condition_II_33 hl (by decide) rfl (fun ls hln => ?_)
      replace hl : lv_has ls 5 [(4, .int 0), (3, .int 0), (0, .ref m0), (1, .int (nI j7)), (2, .int y)] := hln
      clear hln
      have hloop14 : ∀ (n35 : Nat) (v : Nat) (i : Nat) (hi : i ≤ mev) (hv : v = cnt i (fun e => decide (¬ hasv (gtn e) j7 = 0))) (hvi : v ≤ i) (H : Heap) (locs : List Loc) (ls : Array Slot) (hl : lv_has ls 5 [(0, .ref m0), (1, .int (nI j7)), (2, .int y), (3, .int (nI v)), (4, .int (nI i))]) (hP : va_P (dC, dI) clA [(m0, .inr (9, [.int 0, .int (nI mt), .ref m1, .ref m2, .int mf, .int (nI mcd), .ref m3, .ref m4, .ref m5, .ref m6, .int (nI mev), .ref m7, .ref m8, .ref m9, .ref m10, .ref m11, .ref m12, .ref m13, .int mwh, .int mps, .ref m14, .ref m15, .long mlr, .int (nI mlt), .int (nI mlm), .ref m16, .int mln, .ref m17])), (m9, .inl (cL, 30, .inr (.inl gtn))), (m3, .inl (cI, 60, .inl gpl)), (m4, .inl (cI, 60, .inl gmk))] H) (hD : va_D A [(m0, .inr (9, [.int 0, .int (nI mt), .ref m1, .ref m2, .int mf, .int (nI mcd), .ref m3, .ref m4, .ref m5, .ref m6, .int (nI mev), .ref m7, .ref m8, .ref m9, .ref m10, .ref m11, .ref m12, .ref m13, .int mwh, .int mps, .ref m14, .ref m15, .long mlr, .int (nI mlt), .int (nI mlm), .ref m16, .int mln, .ref m17])), (m9, .inl (cL, 30, .inr (.inl gtn))), (m3, .inl (cI, 60, .inl gpl)), (m4, .inl (cI, 60, .inl gmk))]) (hS : va_S A s.heap H locs) (hm35 : mev - i < n35), W p l e (headSpec (Cond.code y_Mo_condition_II prog_11_method_40_code 5 (some .int) :: wsA) { frames := 1, cells := 0, slots := 0, locals := 22 }).room s m ([.ref m0, .int (nI j7), .int y] : List Value).toArray below meth c H locs 0 0 Q (F0 m 35 ls []) := by
        clear hl hP hD hS
        intro n35
        induction n35 with
        | zero => intro v i hi hv hvi H locs ls hl hP hD hS hm; exact absurd hm (Nat.not_lt_zero _)
        | succ n35 hloop14_ih =>
          intro v i hi hv hvi H locs ls hl hP hD hS hm35
          refine lv_iload hx hb d_Mo_condition_II_35 (lv_at hl 4 rfl) ?_
          refine lv_aload_n hx hb d_Mo_condition_II_37 rfl (lv_at hl 0 rfl) ?_
          refine va_get (D := (dC, dI)) (ci := 9) (v := .int (nI mev)) (C := "NetUnfolderModel") (T := T_Mo) (N := 28) hx hb ht in_Mo hown hK hP 0 rfl rfl 10 (by decide) (ht _ wd_4_10) (fun _ h9 => h9) rfl d_Mo_condition_II_38 ?_
          refine lv_icmp_ge (tgt := 72) hx hb d_Mo_condition_II_41 (by decide) (fun hb15 => ?_) (fun hb15 => ?_)
          · skip
            replace hb15 := cv_le (a := mev) (b := i) (by omega) (by omega) hb15
            refine lv_iload_n hx hb d_Mo_condition_II_72 rfl (lv_at hl 2 rfl) ?_
            refine lv_if_ne (tgt := 85) hx hb d_Mo_condition_II_73 (by decide) (fun hb16 => ?_) (fun hb16 => ?_)
            · skip
              refine lv_iload_n hx hb d_Mo_condition_II_85 rfl (lv_at hl 2 rfl) ?_
              refine lv_iconst (v := 1) hx hb d_Mo_condition_II_86 (by decide) ?_
              refine lv_icmp_ne (tgt := 99) hx hb d_Mo_condition_II_87 (by decide) (fun hb17 => ?_) (fun hb17 => ?_)
              · skip
                refine lv_iload_n hx hb d_Mo_condition_II_99 rfl (lv_at hl 3 rfl) ?_
                have hP9 := hP.sub (ws' := [(m0, .inr (9, [.int 0, .int (nI mt), .ref m1, .ref m2, .int mf, .int (nI mcd), .ref m3, .ref m4, .ref m5, .ref m6, .int (nI mev), .ref m7, .ref m8, .ref m9, .ref m10, .ref m11, .ref m12, .ref m13, .int mwh, .int mps, .ref m14, .ref m15, .long mlr, .int (nI mlt), .int (nI mlm), .ref m16, .int mln, .ref m17])), (m9, .inl (cL, 30, .inr (.inl gtn))), (m3, .inl (cI, 60, .inl gpl)), (m4, .inl (cI, 60, .inl gmk))]) [0, 1, 2, 3] rfl
                have hD9 := hD.sub (ws' := [(m0, .inr (9, [.int 0, .int (nI mt), .ref m1, .ref m2, .int mf, .int (nI mcd), .ref m3, .ref m4, .ref m5, .ref m6, .int (nI mev), .ref m7, .ref m8, .ref m9, .ref m10, .ref m11, .ref m12, .ref m13, .int mwh, .int mps, .ref m14, .ref m15, .long mlr, .int (nI mlt), .int (nI mlm), .ref m16, .int mln, .ref m17])), (m9, .inl (cL, 30, .inr (.inl gtn))), (m3, .inl (cI, 60, .inl gpl)), (m4, .inl (cI, 60, .inl gmk))]) [0, 1, 2, 3] (by decide) rfl
                subst hQ
                exact W.iret (v := nI v) hx hb hr (fun t9 ht9 hW => ⟨⟨nI v, (), rfl, (cdV_2 j7_l (by omega) (is_2 (out_0 hr12 hb13) (by assumption) (by assumption)) (congrArg nI (by have e9 : i = mev := (by omega); rw [hv, e9]))), by rw [ht9]; exact hP9, hD9⟩, hS.F ht9⟩) hS.2.2 d_Mo_condition_II_100
              · skip
                refine lv_aload_n hx hb d_Mo_condition_II_90 rfl (lv_at hl 0 rfl) ?_
                refine va_get (D := (dC, dI)) (ci := 9) (v := .ref m4) (C := "NetUnfolderModel") (T := T_Mo) (N := 28) hx hb ht in_Mo hown hK hP 0 rfl rfl 7 (by decide) (ht _ wd_4_7) (fun _ h9 => h9) rfl d_Mo_condition_II_91 ?_
                refine lv_iload_n hx hb d_Mo_condition_II_94 rfl (lv_at hl 1 rfl) ?_
                refine na_iald (k := j7) hx hb hK hP 3 0 rfl rfl (by omega) (by decide) d_Mo_condition_II_95 ?_
                refine lv_goto (tgt := 100) hx hb d_Mo_condition_II_96 (by decide) ?_
                have hP9 := hP.sub (ws' := [(m0, .inr (9, [.int 0, .int (nI mt), .ref m1, .ref m2, .int mf, .int (nI mcd), .ref m3, .ref m4, .ref m5, .ref m6, .int (nI mev), .ref m7, .ref m8, .ref m9, .ref m10, .ref m11, .ref m12, .ref m13, .int mwh, .int mps, .ref m14, .ref m15, .long mlr, .int (nI mlt), .int (nI mlm), .ref m16, .int mln, .ref m17])), (m9, .inl (cL, 30, .inr (.inl gtn))), (m3, .inl (cI, 60, .inl gpl)), (m4, .inl (cI, 60, .inl gmk))]) [0, 1, 2, 3] rfl
                have hD9 := hD.sub (ws' := [(m0, .inr (9, [.int 0, .int (nI mt), .ref m1, .ref m2, .int mf, .int (nI mcd), .ref m3, .ref m4, .ref m5, .ref m6, .int (nI mev), .ref m7, .ref m8, .ref m9, .ref m10, .ref m11, .ref m12, .ref m13, .int mwh, .int mps, .ref m14, .ref m15, .long mlr, .int (nI mlt), .int (nI mlm), .ref m16, .int mln, .ref m17])), (m9, .inl (cL, 30, .inr (.inl gtn))), (m3, .inl (cI, 60, .inl gpl)), (m4, .inl (cI, 60, .inl gmk))]) [0, 1, 2, 3] (by decide) rfl
                subst hQ
                exact W.iret (v := gmk j7) hx hb hr (fun t9 ht9 hW => ⟨⟨gmk j7, (), rfl, (cdV_1 j7_l (by omega) (by assumption) rfl), by rw [ht9]; exact hP9, hD9⟩, hS.F ht9⟩) hS.2.2 d_Mo_condition_II_100
            · skip
              refine lv_aload_n hx hb d_Mo_condition_II_76 rfl (lv_at hl 0 rfl) ?_
              refine va_get (D := (dC, dI)) (ci := 9) (v := .ref m3) (C := "NetUnfolderModel") (T := T_Mo) (N := 28) hx hb ht in_Mo hown hK hP 0 rfl rfl 6 (by decide) (ht _ wd_4_6) (fun _ h9 => h9) rfl d_Mo_condition_II_77 ?_
              refine lv_iload_n hx hb d_Mo_condition_II_80 rfl (lv_at hl 1 rfl) ?_
              refine na_iald (k := j7) hx hb hK hP 2 0 rfl rfl (by omega) (by decide) d_Mo_condition_II_81 ?_
              refine lv_goto (tgt := 100) hx hb d_Mo_condition_II_82 (by decide) ?_
              have hP9 := hP.sub (ws' := [(m0, .inr (9, [.int 0, .int (nI mt), .ref m1, .ref m2, .int mf, .int (nI mcd), .ref m3, .ref m4, .ref m5, .ref m6, .int (nI mev), .ref m7, .ref m8, .ref m9, .ref m10, .ref m11, .ref m12, .ref m13, .int mwh, .int mps, .ref m14, .ref m15, .long mlr, .int (nI mlt), .int (nI mlm), .ref m16, .int mln, .ref m17])), (m9, .inl (cL, 30, .inr (.inl gtn))), (m3, .inl (cI, 60, .inl gpl)), (m4, .inl (cI, 60, .inl gmk))]) [0, 1, 2, 3] rfl
              have hD9 := hD.sub (ws' := [(m0, .inr (9, [.int 0, .int (nI mt), .ref m1, .ref m2, .int mf, .int (nI mcd), .ref m3, .ref m4, .ref m5, .ref m6, .int (nI mev), .ref m7, .ref m8, .ref m9, .ref m10, .ref m11, .ref m12, .ref m13, .int mwh, .int mps, .ref m14, .ref m15, .long mlr, .int (nI mlt), .int (nI mlm), .ref m16, .int mln, .ref m17])), (m9, .inl (cL, 30, .inr (.inl gtn))), (m3, .inl (cI, 60, .inl gpl)), (m4, .inl (cI, 60, .inl gmk))]) [0, 1, 2, 3] (by decide) rfl
              subst hQ
              exact W.iret (v := gpl j7) hx hb hr (fun t9 ht9 hW => ⟨⟨gpl j7, (), rfl, (cdV_0 j7_l (by omega) (by assumption) rfl), by rw [ht9]; exact hP9, hD9⟩, hS.F ht9⟩) hS.2.2 d_Mo_condition_II_100
          · skip
            replace hb15 := cv_nle (a := mev) (b := i) (by omega) (by omega) hb15
            refine lv_aload_n hx hb d_Mo_condition_II_44 rfl (lv_at hl 0 rfl) ?_
            refine va_get (D := (dC, dI)) (ci := 9) (v := .ref m9) (C := "NetUnfolderModel") (T := T_Mo) (N := 28) hx hb ht in_Mo hown hK hP 0 rfl rfl 13 (by decide) (ht _ wd_4_13) (fun _ h9 => h9) rfl d_Mo_condition_II_45 ?_
            refine lv_iload hx hb d_Mo_condition_II_48 (lv_at hl 4 rfl) ?_
            refine na_lald (k := i) hx hb hK hP 1 1 rfl rfl (by omega) (by decide) d_Mo_condition_II_50 ?_
            refine lv_iload_n hx hb d_Mo_condition_II_51 rfl (lv_at hl 1 rfl) ?_
            have hPc : va_P (dC, dI) clA [] _ := pu_P (H := H)
            have hDc : va_D (fun _ => True) [] := pu_D
            have hFc := pu_free hS hA
            refine va_calli (va_runS (As := [.long (gtn i), .int (nI j7)]) (rest := []) ⟨hx, hb, hml, hown, ht⟩ (c_Mo_has l dC dI cI cL cZ _ (gtn i) j7 (by first | assumption | omega | trivial | exact AllLt.zero | exact AllN.zero | exact AllM.zero | exact Or.inl rfl | exact Or.inr rfl)) (va_cwS 2 ht (good_S wd_4_121 wd_4_122 wd_1_10 wd_4_123) rfl rfl rfl (by decide +kernel) ⟨Nat.le_of_ble_eq_true rfl, Nat.le_of_ble_eq_true rfl⟩) ⟨fun a U g mk q => by obtain ⟨q0, q1, qP, qK, qD, qN⟩ := q; exact ⟨q0, q1, qP, va_K.moved (u := U) (U := U.calling g mk a) (Vm.Alike.refl U.vm) qK, qD, NwA.same (u := U) rfl qN⟩, fun U hU hW => ⟨rfl, by rw [hU], by rw [hU]; exact hPc, va_K.moved hW.alike hK, hDc.weaken (fun _ _ _ _ => trivial), NwA.warm hW hN⟩⟩ rfl rfl hl.1 rfl (lv_room (Nat.le_of_ble_eq_true rfl)) d_Mo_condition_II_52 ⟨Nat.le_of_ble_eq_true rfl, Nat.le_of_ble_eq_true rfl⟩) hS (fun q _ h => hFc q h) hFc (fun r20 u9 t9 H18 locs ht9 hvm hw19 hB hz1 hk1 hSn => ?_)
            replace hP : va_P (dC, dI) clA [(m0, .inr (9, [.int 0, .int (nI mt), .ref m1, .ref m2, .int mf, .int (nI mcd), .ref m3, .ref m4, .ref m5, .ref m6, .int (nI mev), .ref m7, .ref m8, .ref m9, .ref m10, .ref m11, .ref m12, .ref m13, .int mwh, .int mps, .ref m14, .ref m15, .long mlr, .int (nI mlt), .int (nI mlm), .ref m16, .int mln, .ref m17])), (m9, .inl (cL, 30, .inr (.inl gtn))), (m3, .inl (cI, 60, .inl gpl)), (m4, .inl (cI, 60, .inl gmk))] H18 := pu_keep hP hk1
            replace hS := hSn
            clear hSn hPc hDc hFc hk1 hz1 ht9 hvm hB
            refine W.cs (cells' := 0) (slots' := 0) rfl rfl ?_
            subst hw19
            refine lv_if_eq (tgt := 64) hx hb d_Mo_condition_II_55 (by decide) (fun hb21 => ?_) (fun hb21 => ?_)
            · skip
              refine lv_iload_n hx hb d_Mo_condition_II_64 rfl (lv_at hl 3 rfl) ?_
              refine lv_istore_n (lv' := [(3, .int (nI v)), (0, .ref m0), (1, .int (nI j7)), (2, .int y), (4, .int (nI i))]) hx hb d_Mo_condition_II_65 rfl hl (by decide) rfl (fun ls hln => ?_)
              replace hl : lv_has ls 5 [(3, .int (nI v)), (0, .ref m0), (1, .int (nI j7)), (2, .int y), (4, .int (nI i))] := hln
              clear hln
              refine lv_iinc (k := 4) (v := nI (i + 1)) (lv' := [(4, .int (nI (i + 1))), (3, .int (nI v)), (0, .ref m0), (1, .int (nI j7)), (2, .int y)]) hx hb d_Mo_condition_II_66 hl rfl (nI_1 _) (by decide) rfl (fun ls hln => ?_)
              replace hl : lv_has ls 5 [(4, .int (nI (i + 1))), (3, .int (nI v)), (0, .ref m0), (1, .int (nI j7)), (2, .int y)] := hln
              clear hln
              refine lv_goto (tgt := 35) hx hb d_Mo_condition_II_69 (by decide) ?_
              exact hloop14_ih v (i + 1) (by first | assumption | omega | trivial | exact AllLt.zero | exact AllN.zero | exact AllM.zero | exact Or.inl rfl | exact Or.inr rfl) (by rw [cnt_succ, if_neg (by simpa using hb21)]; exact hv) (by first | assumption | omega | trivial | exact AllLt.zero | exact AllN.zero | exact AllM.zero | exact Or.inl rfl | exact Or.inr rfl) _ _ ls (lv_sub hl [2, 3, 4, 1, 0] rfl) (hP.sub [0, 1, 2, 3] rfl) (hD.sub [0, 1, 2, 3] (by decide) rfl) hS (by omega)
            · skip
              refine lv_iload_n hx hb d_Mo_condition_II_58 rfl (lv_at hl 3 rfl) ?_
              refine lv_iconst (v := 1) hx hb d_Mo_condition_II_59 (by decide) ?_
              refine lv_iadd hx hb d_Mo_condition_II_60 ?_
              refine ci_i (y := nI (v + 1)) (cv_add v 1) ?_
              refine lv_goto (tgt := 65) hx hb d_Mo_condition_II_61 (by decide) ?_
              refine lv_istore_n (lv' := [(3, .int (nI (v + 1))), (0, .ref m0), (1, .int (nI j7)), (2, .int y), (4, .int (nI i))]) hx hb d_Mo_condition_II_65 rfl hl (by decide) rfl (fun ls hln => ?_)
              replace hl : lv_has ls 5 [(3, .int (nI (v + 1))), (0, .ref m0), (1, .int (nI j7)), (2, .int y), (4, .int (nI i))] := hln
              clear hln
              refine lv_iinc (k := 4) (v := nI (i + 1)) (lv' := [(4, .int (nI (i + 1))), (3, .int (nI (v + 1))), (0, .ref m0), (1, .int (nI j7)), (2, .int y)]) hx hb d_Mo_condition_II_66 hl rfl (nI_1 _) (by decide) rfl (fun ls hln => ?_)
              replace hl : lv_has ls 5 [(4, .int (nI (i + 1))), (3, .int (nI (v + 1))), (0, .ref m0), (1, .int (nI j7)), (2, .int y)] := hln
              clear hln
              refine lv_goto (tgt := 35) hx hb d_Mo_condition_II_69 (by decide) ?_
              exact hloop14_ih (v + 1) (i + 1) (by first | assumption | omega | trivial | exact AllLt.zero | exact AllN.zero | exact AllM.zero | exact Or.inl rfl | exact Or.inr rfl) (by rw [cnt_succ, if_pos (by simpa using hb21)]; omega) (by first | assumption | omega | trivial | exact AllLt.zero | exact AllN.zero | exact AllM.zero | exact Or.inl rfl | exact Or.inr rfl) _ _ ls (lv_sub hl [2, 3, 4, 1, 0] rfl) (hP.sub [0, 1, 2, 3] rfl) (hD.sub [0, 1, 2, 3] (by decide) rfl) hS (by omega)
      exact hloop14 ((mev - 0) + 1) 0 0 (by first | assumption | omega | trivial | exact AllLt.zero | exact AllN.zero | exact AllM.zero | exact Or.inl rfl | exact Or.inr rfl) rfl (by first | assumption | omega | trivial | exact AllLt.zero | exact AllN.zero | exact AllM.zero | exact Or.inl rfl | exact Or.inr rfl) _ _ ls (lv_sub hl [2, 3, 4, 1, 0] rfl) hP hD hS (Nat.lt_succ_self _)
    · skip
      refine lv_iconst (v := (-1)) hx hb d_Mo_condition_II_28 (by decide) ?_
      have hP9 := hP.sub (ws' := [(m0, .inr (9, [.int 0, .int (nI mt), .ref m1, .ref m2, .int mf, .int (nI mcd), .ref m3, .ref m4, .ref m5, .ref m6, .int (nI mev), .ref m7, .ref m8, .ref m9, .ref m10, .ref m11, .ref m12, .ref m13, .int mwh, .int mps, .ref m14, .ref m15, .long mlr, .int (nI mlt), .int (nI mlm), .ref m16, .int mln, .ref m17])), (m9, .inl (cL, 30, .inr (.inl gtn))), (m3, .inl (cI, 60, .inl gpl)), (m4, .inl (cI, 60, .inl gmk))]) [0, 1, 2, 3] rfl
      have hD9 := hD.sub (ws' := [(m0, .inr (9, [.int 0, .int (nI mt), .ref m1, .ref m2, .int mf, .int (nI mcd), .ref m3, .ref m4, .ref m5, .ref m6, .int (nI mev), .ref m7, .ref m8, .ref m9, .ref m10, .ref m11, .ref m12, .ref m13, .int mwh, .int mps, .ref m14, .ref m15, .long mlr, .int (nI mlt), .int (nI mlm), .ref m16, .int mln, .ref m17])), (m9, .inl (cL, 30, .inr (.inl gtn))), (m3, .inl (cI, 60, .inl gpl)), (m4, .inl (cI, 60, .inl gmk))]) [0, 1, 2, 3] (by decide) rfl
      subst hQ
      exact W.iret (v := (-1)) hx hb hr (fun t9 ht9 hW => ⟨⟨(-1), (), rfl, (cdV_n (lt_n3 (out_1 hr12 hb13)).1 (lt_n3 (out_1 hr12 hb13)).2.1 (lt_n3 (out_1 hr12 hb13)).2.2), by rw [ht9]; exact hP9, hD9⟩, hS.F ht9⟩) hS.2.2 d_Mo_condition_II_29
