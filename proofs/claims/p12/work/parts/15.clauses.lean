set_option maxHeartbeats 4000000 in
set_option maxRecDepth 100000 in
theorem c_Cs_wipe (l : Launch) (dC : Nat → ClassId) (dI : Nat → Nat → Nat) (cI cL cZ : ClassId) (sz : Nat) (k0 : Nat) (k1 : Nat) (k2 : Nat) (kz : Nat) (kg : Nat) : Met l y_Cs_wipe (Cond.code y_Cs_wipe prog_2_method_2_code 1 none :: wsA) { frames := 0, cells := 0, slots := 0, locals := 0 } (va_Pc [.ref k0] (fun U => U.heap.size = sz ∧ va_P (dC, dI) clA [(k0, .inr (7, [.ref k1, .ref k2, .int (nI kz), .int (nI kg)]))] U.heap ∧ va_K (dC, dI) clA [(cI, .int), (cL, .long), (cZ, .boolean)] U ∧ va_D (fun _ => True) [(k0, .inr (7, [.ref k1, .ref k2, .int (nI kz), .int (nI kg)]))] ∧ NwA U)) (va_Qv (fun _ : Unit => True) (fun _ t => va_P (dC, dI) clA [(k0, .inr (7, [.ref k1, .ref k2, .int 0, .int 0]))] t.heap ∧ va_D (va_A [(k0, .inr (7, [.ref k1, .ref k2, .int (nI kz), .int (nI kg)]))] sz) [(k0, .inr (7, [.ref k1, .ref k2, .int 0, .int 0]))]) (va_A [(k0, .inr (7, [.ref k1, .ref k2, .int (nI kz), .int (nI kg)]))] sz)) 0 0 (va_A [(k0, .inr (7, [.ref k1, .ref k2, .int (nI kz), .int (nI kg)]))] sz) := by
  refine Met.ofW (cc := prog_2_method_2_code) (maxL := 1) (ret := none) (by decide) rfl ?_
  intro p e s m args below meth c s₁ B hml hv
  obtain ⟨rfl, hsz, hP, hK, hD0, hN⟩ := hv
  have hx := B.exec
  have hb := B.bytes
  have hr := B.returns
  have ht : ∀ w ∈ wsA, w.before _ s = true := fun w h => atoms_spec (ws := (Cond.code y_Cs_wipe prog_2_method_2_code 1 none :: wsA)) B.pre w (List.mem_cons_of_mem _ h)
  have hown : s.vm.findClass "NetUnfolder$Clauses" = some m.cls := findClass_of_methodNamed B.named
  have hlocks := B.notSynchronized
  subst hsz
  have hD := hD0.self (sz := s.heap.size)
  generalize hAe : va_A [(k0, .inr (7, [.ref k1, .ref k2, .int (nI kz), .int (nI kg)]))] s.heap.size = A at hD ⊢
  have hA : ∀ q : Nat, s.heap.size ≤ q → A q := fun q h => by rw [← hAe]; exact Or.inr h
  have hS : va_S A s.heap s.heap [] := va_S.rf
  have hl := lv_entry ([.ref k0]) (n := 1) (Nat.le_of_ble_eq_true rfl)
  rw [lg_entry_eq]
  generalize (lg_sl ([.ref k0]) ++ List.replicate (1 - (lg_sl ([.ref k0])).length) Slot.unset).toArray = ls at hl ⊢
  replace hl : lv_has ls 1 [(0, .ref k0)] := hl
  refine W_Q (fun Q hQ => ?_)
  refine lv_aload_n hx hb d_Cs_wipe_0 rfl (lv_at hl 0 rfl) ?_
  refine lv_iconst (v := 0) hx hb d_Cs_wipe_1 (by decide) ?_
  refine va_put (D := (dC, dI)) (ci := 7) (v := .int 0) (ty := .int) (C := "NetUnfolder$Clauses") (T := T_Cs) (N := 4) hx hb ht in_Cs ty_Cs ok_Cs nm_Cs hown hK hP hD hS 0 rfl rfl 2 (by decide) (ht _ wd_1_213) (fun _ h9 => h9) rfl (by decide +kernel) rfl rfl (Nat.le_of_ble_eq_true rfl) d_Cs_wipe_2 (fun H1 locs hPn hDn hSn => ?_)
  replace hP : va_P (dC, dI) clA [(k0, .inr (7, [.ref k1, .ref k2, .int 0, .int (nI kg)]))] H1 := hPn
  replace hD : va_D A [(k0, .inr (7, [.ref k1, .ref k2, .int 0, .int (nI kg)]))] := hDn
  replace hS := hSn
  clear hPn hDn hSn
  refine lv_aload_n hx hb d_Cs_wipe_5 rfl (lv_at hl 0 rfl) ?_
  refine lv_iconst (v := 0) hx hb d_Cs_wipe_6 (by decide) ?_
  refine va_put (D := (dC, dI)) (ci := 7) (v := .int 0) (ty := .int) (C := "NetUnfolder$Clauses") (T := T_Cs) (N := 4) hx hb ht in_Cs ty_Cs ok_Cs nm_Cs hown hK hP hD hS 0 rfl rfl 3 (by decide) (ht _ wd_1_215) (fun _ h9 => h9) rfl (by decide +kernel) rfl rfl (Nat.le_of_ble_eq_true rfl) d_Cs_wipe_7 (fun H2 locs hPn hDn hSn => ?_)
  replace hP : va_P (dC, dI) clA [(k0, .inr (7, [.ref k1, .ref k2, .int 0, .int 0]))] H2 := hPn
  replace hD : va_D A [(k0, .inr (7, [.ref k1, .ref k2, .int 0, .int 0]))] := hDn
  replace hS := hSn
  clear hPn hDn hSn
  have hP9 := hP.sub (ws' := [(k0, .inr (7, [.ref k1, .ref k2, .int 0, .int 0]))]) [0] rfl
  have hD9 := hD.sub (ws' := [(k0, .inr (7, [.ref k1, .ref k2, .int 0, .int 0]))]) [0] (by decide) rfl
  subst hQ
  exact W.vret hx hb hr (fun t9 ht9 hW => ⟨⟨(), rfl, trivial, by rw [ht9]; exact hP9, hD9⟩, hS.F ht9⟩) hS.2.2 d_Cs_wipe_10

set_option maxHeartbeats 4000000 in
set_option maxRecDepth 100000 in
theorem c_Cs_give (l : Launch) (dC : Nat → ClassId) (dI : Nat → Nat → Nat) (cI cL cZ : ClassId) (sz : Nat) (k0 : Nat) (k1 : Nat) (k2 : Nat) (kg : Nat) (ky : Nat → Int64) (kn : Nat → Int64) (x : Int64) (y : Int64) (hkg : kg ≤ 751) (hky : AllM ky 815) (hkn : AllM kn 815) (hx1 : M38 x) (hy1 : M38 y) : Met l y_Cs_give (Cond.code y_Cs_give prog_2_method_4_code 5 none :: wsA) { frames := 0, cells := 0, slots := 0, locals := 0 } (va_Pc [.ref k0, .long x, .long y] (fun U => U.heap.size = sz ∧ va_P (dC, dI) clA [(k0, .inr (7, [.ref k1, .ref k2, .int (nI kg), .int (nI kg)])), (k1, .inl (cL, 815, .inr (.inl ky))), (k2, .inl (cL, 815, .inr (.inl kn)))] U.heap ∧ va_K (dC, dI) clA [(cI, .int), (cL, .long), (cZ, .boolean)] U ∧ va_D (fun _ => True) [(k0, .inr (7, [.ref k1, .ref k2, .int (nI kg), .int (nI kg)])), (k1, .inl (cL, 815, .inr (.inl ky))), (k2, .inl (cL, 815, .inr (.inl kn)))] ∧ NwA U)) (va_Qv (fun _ : Unit => True) (fun _ t => ∃ (kg1 : Nat), ∃ (ky1 : Nat → Int64), ∃ (kn1 : Nat → Int64), (kg1 ≤ 751) ∧ (AllM ky1 815) ∧ (AllM kn1 815) ∧ va_P (dC, dI) clA [(k0, .inr (7, [.ref k1, .ref k2, .int (nI kg1), .int (nI kg1)])), (k1, .inl (cL, 815, .inr (.inl ky1))), (k2, .inl (cL, 815, .inr (.inl kn1)))] t.heap ∧ va_D (va_A [(k0, .inr (7, [.ref k1, .ref k2, .int (nI kg), .int (nI kg)])), (k1, .inl (cL, 815, .inr (.inl ky))), (k2, .inl (cL, 815, .inr (.inl kn)))] sz) [(k0, .inr (7, [.ref k1, .ref k2, .int (nI kg1), .int (nI kg1)])), (k1, .inl (cL, 815, .inr (.inl ky1))), (k2, .inl (cL, 815, .inr (.inl kn1)))]) (va_A [(k0, .inr (7, [.ref k1, .ref k2, .int (nI kg), .int (nI kg)])), (k1, .inl (cL, 815, .inr (.inl ky))), (k2, .inl (cL, 815, .inr (.inl kn)))] sz)) 0 0 (va_A [(k0, .inr (7, [.ref k1, .ref k2, .int (nI kg), .int (nI kg)])), (k1, .inl (cL, 815, .inr (.inl ky))), (k2, .inl (cL, 815, .inr (.inl kn)))] sz) := by
  refine Met.ofW (cc := prog_2_method_4_code) (maxL := 5) (ret := none) (by decide) rfl ?_
  intro p e s m args below meth c s₁ B hml hv
  obtain ⟨rfl, hsz, hP, hK, hD0, hN⟩ := hv
  have hx := B.exec
  have hb := B.bytes
  have hr := B.returns
  have ht : ∀ w ∈ wsA, w.before _ s = true := fun w h => atoms_spec (ws := (Cond.code y_Cs_give prog_2_method_4_code 5 none :: wsA)) B.pre w (List.mem_cons_of_mem _ h)
  have hown : s.vm.findClass "NetUnfolder$Clauses" = some m.cls := findClass_of_methodNamed B.named
  have hlocks := B.notSynchronized
  subst hsz
  have hD := hD0.self (sz := s.heap.size)
  generalize hAe : va_A [(k0, .inr (7, [.ref k1, .ref k2, .int (nI kg), .int (nI kg)])), (k1, .inl (cL, 815, .inr (.inl ky))), (k2, .inl (cL, 815, .inr (.inl kn)))] s.heap.size = A at hD ⊢
  have hA : ∀ q : Nat, s.heap.size ≤ q → A q := fun q h => by rw [← hAe]; exact Or.inr h
  have hS : va_S A s.heap s.heap [] := va_S.rf
  have hl := lv_entry ([.ref k0, .long x, .long y]) (n := 5) (Nat.le_of_ble_eq_true rfl)
  rw [lg_entry_eq]
  generalize (lg_sl ([.ref k0, .long x, .long y]) ++ List.replicate (5 - (lg_sl ([.ref k0, .long x, .long y])).length) Slot.unset).toArray = ls at hl ⊢
  replace hl : lv_has ls 5 [(0, .ref k0), (1, .long x), (3, .long y)] := hl
  refine W_Q (fun Q hQ => ?_)
  refine lv_lload_n hx hb d_Cs_give_0 rfl (lv_at hl 1 rfl) ?_
  refine lv_lload_n hx hb d_Cs_give_1 rfl (lv_at hl 2 rfl) ?_
  refine lv_land hx hb d_Cs_give_2 ?_
  refine lv_lconst (v := 0) hx hb d_Cs_give_3 (by decide) ?_
  refine W.lcmp hx hb d_Cs_give_4 ?_
  refine lv_if_ne (tgt := 56) hx hb d_Cs_give_5 (by decide) (fun hb1 => ?_) (fun hb1 => ?_)
  · skip
    have hP9 := hP.sub (ws' := [(k0, .inr (7, [.ref k1, .ref k2, .int (nI kg), .int (nI kg)])), (k1, .inl (cL, 815, .inr (.inl ky))), (k2, .inl (cL, 815, .inr (.inl kn)))]) [0, 1, 2] rfl
    have hD9 := hD.sub (ws' := [(k0, .inr (7, [.ref k1, .ref k2, .int (nI kg), .int (nI kg)])), (k1, .inl (cL, 815, .inr (.inl ky))), (k2, .inl (cL, 815, .inr (.inl kn)))]) [0, 1, 2] (by decide) rfl
    subst hQ
    exact W.vret hx hb hr (fun t9 ht9 hW => ⟨⟨(), rfl, trivial, kg, ky, kn, (by first | assumption | omega | trivial | exact AllLt.zero | exact AllN.zero | exact AllM.zero | exact Or.inl rfl | exact Or.inr rfl), (by first | assumption | exact AllM.put hky hx1), (by first | assumption | exact AllM.put hkn hy1), by rw [ht9]; exact hP9, hD9⟩, hS.F ht9⟩) hS.2.2 d_Cs_give_56
  · skip
    refine lv_aload_n hx hb d_Cs_give_8 rfl (lv_at hl 0 rfl) ?_
    refine va_get (D := (dC, dI)) (ci := 7) (v := .int (nI kg)) (C := "NetUnfolder$Clauses") (T := T_Cs) (N := 4) hx hb ht in_Cs hown hK hP 0 rfl rfl 3 (by decide) (ht _ wd_1_215) (fun _ h9 => h9) rfl d_Cs_give_9 ?_
    refine lv_sipush (v := 751) hx hb d_Cs_give_12 (by decide) ?_
    refine lv_icmp_ge (tgt := 56) hx hb d_Cs_give_15 (by decide) (fun hb2 => ?_) (fun hb2 => ?_)
    · skip
      replace hb2 := cv_le (a := 751) (b := kg) (by omega) (by omega) hb2
      have hP9 := hP.sub (ws' := [(k0, .inr (7, [.ref k1, .ref k2, .int (nI kg), .int (nI kg)])), (k1, .inl (cL, 815, .inr (.inl ky))), (k2, .inl (cL, 815, .inr (.inl kn)))]) [0, 1, 2] rfl
      have hD9 := hD.sub (ws' := [(k0, .inr (7, [.ref k1, .ref k2, .int (nI kg), .int (nI kg)])), (k1, .inl (cL, 815, .inr (.inl ky))), (k2, .inl (cL, 815, .inr (.inl kn)))]) [0, 1, 2] (by decide) rfl
      subst hQ
      exact W.vret hx hb hr (fun t9 ht9 hW => ⟨⟨(), rfl, trivial, kg, ky, kn, (by first | assumption | omega | trivial | exact AllLt.zero | exact AllN.zero | exact AllM.zero | exact Or.inl rfl | exact Or.inr rfl), (by first | assumption | exact AllM.put hky hx1), (by first | assumption | exact AllM.put hkn hy1), by rw [ht9]; exact hP9, hD9⟩, hS.F ht9⟩) hS.2.2 d_Cs_give_56
    · skip
      replace hb2 := cv_nle (a := 751) (b := kg) (by omega) (by omega) hb2
      refine lv_aload_n hx hb d_Cs_give_18 rfl (lv_at hl 0 rfl) ?_
      refine va_get (D := (dC, dI)) (ci := 7) (v := .ref k1) (C := "NetUnfolder$Clauses") (T := T_Cs) (N := 4) hx hb ht in_Cs hown hK hP 0 rfl rfl 0 (by decide) (ht _ wd_1_209) (fun _ h9 => h9) rfl d_Cs_give_19 ?_
      refine lv_aload_n hx hb d_Cs_give_22 rfl (lv_at hl 0 rfl) ?_
      refine va_get (D := (dC, dI)) (ci := 7) (v := .int (nI kg)) (C := "NetUnfolder$Clauses") (T := T_Cs) (N := 4) hx hb ht in_Cs hown hK hP 0 rfl rfl 3 (by decide) (ht _ wd_1_215) (fun _ h9 => h9) rfl d_Cs_give_23 ?_
      refine lv_lload_n hx hb d_Cs_give_26 rfl (lv_at hl 1 rfl) ?_
      refine na_last (k := kg) hx hb hK hP hD hS 1 1 rfl rfl (by omega) (by decide) d_Cs_give_27 (fun H3 locs hPn hDn hSn => ?_)
      replace hP : va_P (dC, dI) clA [(k0, .inr (7, [.ref k1, .ref k2, .int (nI kg), .int (nI kg)])), (k1, .inl (cL, 815, .inr (.inl (vp_updL ky kg x)))), (k2, .inl (cL, 815, .inr (.inl kn)))] H3 := hPn
      replace hD : va_D A [(k0, .inr (7, [.ref k1, .ref k2, .int (nI kg), .int (nI kg)])), (k1, .inl (cL, 815, .inr (.inl (vp_updL ky kg x)))), (k2, .inl (cL, 815, .inr (.inl kn)))] := hDn
      replace hS := hSn
      clear hPn hDn hSn
      refine lv_aload_n hx hb d_Cs_give_28 rfl (lv_at hl 0 rfl) ?_
      refine va_get (D := (dC, dI)) (ci := 7) (v := .ref k2) (C := "NetUnfolder$Clauses") (T := T_Cs) (N := 4) hx hb ht in_Cs hown hK hP 0 rfl rfl 1 (by decide) (ht _ wd_1_211) (fun _ h9 => h9) rfl d_Cs_give_29 ?_
      refine lv_aload_n hx hb d_Cs_give_32 rfl (lv_at hl 0 rfl) ?_
      refine va_get (D := (dC, dI)) (ci := 7) (v := .int (nI kg)) (C := "NetUnfolder$Clauses") (T := T_Cs) (N := 4) hx hb ht in_Cs hown hK hP 0 rfl rfl 3 (by decide) (ht _ wd_1_215) (fun _ h9 => h9) rfl d_Cs_give_33 ?_
      refine lv_lload_n hx hb d_Cs_give_36 rfl (lv_at hl 2 rfl) ?_
      refine na_last (k := kg) hx hb hK hP hD hS 2 1 rfl rfl (by omega) (by decide) d_Cs_give_37 (fun H4 locs hPn hDn hSn => ?_)
      replace hP : va_P (dC, dI) clA [(k0, .inr (7, [.ref k1, .ref k2, .int (nI kg), .int (nI kg)])), (k1, .inl (cL, 815, .inr (.inl (vp_updL ky kg x)))), (k2, .inl (cL, 815, .inr (.inl (vp_updL kn kg y))))] H4 := hPn
      replace hD : va_D A [(k0, .inr (7, [.ref k1, .ref k2, .int (nI kg), .int (nI kg)])), (k1, .inl (cL, 815, .inr (.inl (vp_updL ky kg x)))), (k2, .inl (cL, 815, .inr (.inl (vp_updL kn kg y))))] := hDn
      replace hS := hSn
      clear hPn hDn hSn
      refine lv_aload_n hx hb d_Cs_give_38 rfl (lv_at hl 0 rfl) ?_
      refine lv_dup hx hb d_Cs_give_39 rfl ?_
      refine va_get (D := (dC, dI)) (ci := 7) (v := .int (nI kg)) (C := "NetUnfolder$Clauses") (T := T_Cs) (N := 4) hx hb ht in_Cs hown hK hP 0 rfl rfl 3 (by decide) (ht _ wd_1_215) (fun _ h9 => h9) rfl d_Cs_give_40 ?_
      refine lv_iconst (v := 1) hx hb d_Cs_give_43 (by decide) ?_
      refine lv_iadd hx hb d_Cs_give_44 ?_
      refine ci_i (y := nI (kg + 1)) (cv_add kg 1) ?_
      refine va_put (D := (dC, dI)) (ci := 7) (v := .int (nI (kg + 1))) (ty := .int) (C := "NetUnfolder$Clauses") (T := T_Cs) (N := 4) hx hb ht in_Cs ty_Cs ok_Cs nm_Cs hown hK hP hD hS 0 rfl rfl 3 (by decide) (ht _ wd_1_215) (fun _ h9 => h9) rfl (by decide +kernel) rfl rfl (Nat.le_of_ble_eq_true rfl) d_Cs_give_45 (fun H5 locs hPn hDn hSn => ?_)
      replace hP : va_P (dC, dI) clA [(k0, .inr (7, [.ref k1, .ref k2, .int (nI kg), .int (nI (kg + 1))])), (k1, .inl (cL, 815, .inr (.inl (vp_updL ky kg x)))), (k2, .inl (cL, 815, .inr (.inl (vp_updL kn kg y))))] H5 := hPn
      replace hD : va_D A [(k0, .inr (7, [.ref k1, .ref k2, .int (nI kg), .int (nI (kg + 1))])), (k1, .inl (cL, 815, .inr (.inl (vp_updL ky kg x)))), (k2, .inl (cL, 815, .inr (.inl (vp_updL kn kg y))))] := hDn
      replace hS := hSn
      clear hPn hDn hSn
      refine lv_aload_n hx hb d_Cs_give_48 rfl (lv_at hl 0 rfl) ?_
      refine lv_aload_n hx hb d_Cs_give_49 rfl (lv_at hl 0 rfl) ?_
      refine va_get (D := (dC, dI)) (ci := 7) (v := .int (nI (kg + 1))) (C := "NetUnfolder$Clauses") (T := T_Cs) (N := 4) hx hb ht in_Cs hown hK hP 0 rfl rfl 3 (by decide) (ht _ wd_1_215) (fun _ h9 => h9) rfl d_Cs_give_50 ?_
      refine va_put (D := (dC, dI)) (ci := 7) (v := .int (nI (kg + 1))) (ty := .int) (C := "NetUnfolder$Clauses") (T := T_Cs) (N := 4) hx hb ht in_Cs ty_Cs ok_Cs nm_Cs hown hK hP hD hS 0 rfl rfl 2 (by decide) (ht _ wd_1_213) (fun _ h9 => h9) rfl (by decide +kernel) rfl rfl (Nat.le_of_ble_eq_true rfl) d_Cs_give_53 (fun H6 locs hPn hDn hSn => ?_)
      replace hP : va_P (dC, dI) clA [(k0, .inr (7, [.ref k1, .ref k2, .int (nI (kg + 1)), .int (nI (kg + 1))])), (k1, .inl (cL, 815, .inr (.inl (vp_updL ky kg x)))), (k2, .inl (cL, 815, .inr (.inl (vp_updL kn kg y))))] H6 := hPn
      replace hD : va_D A [(k0, .inr (7, [.ref k1, .ref k2, .int (nI (kg + 1)), .int (nI (kg + 1))])), (k1, .inl (cL, 815, .inr (.inl (vp_updL ky kg x)))), (k2, .inl (cL, 815, .inr (.inl (vp_updL kn kg y))))] := hDn
      replace hS := hSn
      clear hPn hDn hSn
      have hP9 := hP.sub (ws' := [(k0, .inr (7, [.ref k1, .ref k2, .int (nI (kg + 1)), .int (nI (kg + 1))])), (k1, .inl (cL, 815, .inr (.inl (vp_updL ky kg x)))), (k2, .inl (cL, 815, .inr (.inl (vp_updL kn kg y))))]) [0, 1, 2] rfl
      have hD9 := hD.sub (ws' := [(k0, .inr (7, [.ref k1, .ref k2, .int (nI (kg + 1)), .int (nI (kg + 1))])), (k1, .inl (cL, 815, .inr (.inl (vp_updL ky kg x)))), (k2, .inl (cL, 815, .inr (.inl (vp_updL kn kg y))))]) [0, 1, 2] (by decide) rfl
      subst hQ
      exact W.vret hx hb hr (fun t9 ht9 hW => ⟨⟨(), rfl, trivial, (kg + 1), (vp_updL ky kg x), (vp_updL kn kg y), (by first | assumption | omega | trivial | exact AllLt.zero | exact AllN.zero | exact AllM.zero | exact Or.inl rfl | exact Or.inr rfl), (by first | assumption | exact AllM.put hky hx1), (by first | assumption | exact AllM.put hkn hy1), by rw [ht9]; exact hP9, hD9⟩, hS.F ht9⟩) hS.2.2 d_Cs_give_56
