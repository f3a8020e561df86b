set_option maxHeartbeats 4000000 in
set_option maxRecDepth 100000 in
theorem e_NU_concurrent (l : Launch) (dC : Nat → ClassId) (dI : Nat → Nat → Nat) (cI cL cZ : ClassId) (sz : Nat) (x0 : Nat) (u0 : Nat) (n0 : Nat) (w0 : Nat) (f0 : Nat) (f1 : Nat) (f2 : Nat) (f3 : Nat) (f4 : Nat) (f5 : Nat) (f6 : Nat) (f7 : Nat) (f8 : Nat) (f9 : Nat) (f10 : Nat) (pfc : Nat) (pfe : Nat) (pfu : Int32) (pfw : Int32) (fbs : Nat → Int64) (q0 : Nat) (x : Int32) (y : Int32) (hpc : pfc ≤ 60) : Met l y_NU_concurrent (Cond.code y_NU_concurrent prog_1_method_14_code 3 (some .boolean) :: wsA) { frames := 1, cells := 0, slots := 0, locals := 22 } (va_Pc [.ref x0, .int x, .int y] (fun U => U.heap.size = sz ∧ va_P (dC, dI) clA [(x0, .inr (0, [.ref n0, .ref f0, .ref w0, .ref u0, .ref q0])), (f0, .inr (2, [.int (nI pfc), .ref f1, .ref f2, .ref f3, .ref f4, .ref f5, .int (nI pfe), .ref f6, .ref f7, .ref f8, .ref f9, .ref f10, .int pfu, .int pfw])), (f4, .inl (cL, 60, .inr (.inl fbs)))] U.heap ∧ va_K (dC, dI) clA [(cI, .int), (cL, .long), (cZ, .boolean)] U ∧ va_D (fun _ => True) [(x0, .inr (0, [.ref n0, .ref f0, .ref w0, .ref u0, .ref q0])), (f0, .inr (2, [.int (nI pfc), .ref f1, .ref f2, .ref f3, .ref f4, .ref f5, .int (nI pfe), .ref f6, .ref f7, .ref f8, .ref f9, .ref f10, .int pfu, .int pfw])), (f4, .inl (cL, 60, .inr (.inl fbs)))] ∧ NwA U)) (va_Qi (fun r (_ : Unit) => (r = cnV pfc fbs x y)) (fun _ t => va_P (dC, dI) clA [(x0, .inr (0, [.ref n0, .ref f0, .ref w0, .ref u0, .ref q0])), (f0, .inr (2, [.int (nI pfc), .ref f1, .ref f2, .ref f3, .ref f4, .ref f5, .int (nI pfe), .ref f6, .ref f7, .ref f8, .ref f9, .ref f10, .int pfu, .int pfw])), (f4, .inl (cL, 60, .inr (.inl fbs)))] t.heap ∧ va_D (va_A [(x0, .inr (0, [.ref n0, .ref f0, .ref w0, .ref u0, .ref q0])), (f0, .inr (2, [.int (nI pfc), .ref f1, .ref f2, .ref f3, .ref f4, .ref f5, .int (nI pfe), .ref f6, .ref f7, .ref f8, .ref f9, .ref f10, .int pfu, .int pfw])), (f4, .inl (cL, 60, .inr (.inl fbs)))] sz) [(x0, .inr (0, [.ref n0, .ref f0, .ref w0, .ref u0, .ref q0])), (f0, .inr (2, [.int (nI pfc), .ref f1, .ref f2, .ref f3, .ref f4, .ref f5, .int (nI pfe), .ref f6, .ref f7, .ref f8, .ref f9, .ref f10, .int pfu, .int pfw])), (f4, .inl (cL, 60, .inr (.inl fbs)))]) (va_A [(x0, .inr (0, [.ref n0, .ref f0, .ref w0, .ref u0, .ref q0])), (f0, .inr (2, [.int (nI pfc), .ref f1, .ref f2, .ref f3, .ref f4, .ref f5, .int (nI pfe), .ref f6, .ref f7, .ref f8, .ref f9, .ref f10, .int pfu, .int pfw])), (f4, .inl (cL, 60, .inr (.inl fbs)))] sz)) 0 0 (va_A [(x0, .inr (0, [.ref n0, .ref f0, .ref w0, .ref u0, .ref q0])), (f0, .inr (2, [.int (nI pfc), .ref f1, .ref f2, .ref f3, .ref f4, .ref f5, .int (nI pfe), .ref f6, .ref f7, .ref f8, .ref f9, .ref f10, .int pfu, .int pfw])), (f4, .inl (cL, 60, .inr (.inl fbs)))] sz) := by
  refine Met.ofW (cc := prog_1_method_14_code) (maxL := 3) (ret := (some .boolean)) (by decide) rfl ?_
  intro p e s m args below meth c s₁ B hml hv
  obtain ⟨rfl, hsz, hP, hK, hD0, hN⟩ := hv
  have hx := B.exec
  have hb := B.bytes
  have hr := B.returns
  have ht : ∀ w ∈ wsA, w.before _ s = true := fun w h => atoms_spec (ws := (Cond.code y_NU_concurrent prog_1_method_14_code 3 (some .boolean) :: wsA)) B.pre w (List.mem_cons_of_mem _ h)
  have hown : s.vm.findClass "NetUnfolder" = some m.cls := findClass_of_methodNamed B.named
  have hlocks := B.notSynchronized
  subst hsz
  have hD := hD0.self (sz := s.heap.size)
  generalize hAe : va_A [(x0, .inr (0, [.ref n0, .ref f0, .ref w0, .ref u0, .ref q0])), (f0, .inr (2, [.int (nI pfc), .ref f1, .ref f2, .ref f3, .ref f4, .ref f5, .int (nI pfe), .ref f6, .ref f7, .ref f8, .ref f9, .ref f10, .int pfu, .int pfw])), (f4, .inl (cL, 60, .inr (.inl fbs)))] s.heap.size = A at hD ⊢
  have hA : ∀ q : Nat, s.heap.size ≤ q → A q := fun q h => by rw [← hAe]; exact Or.inr h
  have hS : va_S A s.heap s.heap [] := va_S.rf
  have hl := lv_entry ([.ref x0, .int x, .int y]) (n := 3) (Nat.le_of_ble_eq_true rfl)
  rw [lg_entry_eq]
  generalize (lg_sl ([.ref x0, .int x, .int y]) ++ List.replicate (3 - (lg_sl ([.ref x0, .int x, .int y])).length) Slot.unset).toArray = ls at hl ⊢
  replace hl : lv_has ls 3 [(0, .ref x0), (1, .int x), (2, .int y)] := hl
  refine W_Q (fun Q hQ => ?_)
  refine lv_iload_n hx hb d_NU_concurrent_0 rfl (lv_at hl 1 rfl) ?_
  refine lv_if_lt (tgt := 30) hx hb d_NU_concurrent_1 (by decide) (fun hb1 => ?_) (fun hb1 => ?_)
  · skip
    refine lv_iconst (v := 0) hx hb d_NU_concurrent_30 (by decide) ?_
    have hP9 := hP.sub (ws' := [(x0, .inr (0, [.ref n0, .ref f0, .ref w0, .ref u0, .ref q0])), (f0, .inr (2, [.int (nI pfc), .ref f1, .ref f2, .ref f3, .ref f4, .ref f5, .int (nI pfe), .ref f6, .ref f7, .ref f8, .ref f9, .ref f10, .int pfu, .int pfw])), (f4, .inl (cL, 60, .inr (.inl fbs)))]) [0, 1, 2] rfl
    have hD9 := hD.sub (ws' := [(x0, .inr (0, [.ref n0, .ref f0, .ref w0, .ref u0, .ref q0])), (f0, .inr (2, [.int (nI pfc), .ref f1, .ref f2, .ref f3, .ref f4, .ref f5, .int (nI pfe), .ref f6, .ref f7, .ref f8, .ref f9, .ref f10, .int pfu, .int pfw])), (f4, .inl (cL, 60, .inr (.inl fbs)))]) [0, 1, 2] (by decide) rfl
    subst hQ
    exact W.zret (v := 0) hx hb hr rfl (fun t9 ht9 hW => ⟨⟨0, (), rfl, (cnV_x (Or.inl hb1)), by rw [ht9]; exact hP9, hD9⟩, hS.F ht9⟩) hS.2.2 d_NU_concurrent_31
  · skip
    refine lv_iload_n hx hb d_NU_concurrent_4 rfl (lv_at hl 1 rfl) ?_
    refine lv_aload_n hx hb d_NU_concurrent_5 rfl (lv_at hl 0 rfl) ?_
    refine va_get (D := (dC, dI)) (ci := 0) (v := .ref f0) (C := "NetUnfolder") (T := T_NU) (N := 5) hx hb ht in_NU hown hK hP 0 rfl rfl 1 (by decide) (ht _ wd_2_37) (fun _ h9 => h9) rfl d_NU_concurrent_6 ?_
    refine va_get (D := (dC, dI)) (ci := 2) (v := .int (nI pfc)) (C := "NetUnfolder$Prefix") (T := T_Pf) (N := 14) hx hb ht in_Pf hown hK hP 1 rfl rfl 0 (by decide) (ht _ wd_1_65) (fun _ h9 => h9) rfl d_NU_concurrent_9 ?_
    refine lv_icmp_ge (tgt := 30) hx hb d_NU_concurrent_12 (by decide) (fun hb2 => ?_) (fun hb2 => ?_)
    · skip
      refine lv_iconst (v := 0) hx hb d_NU_concurrent_30 (by decide) ?_
      have hP9 := hP.sub (ws' := [(x0, .inr (0, [.ref n0, .ref f0, .ref w0, .ref u0, .ref q0])), (f0, .inr (2, [.int (nI pfc), .ref f1, .ref f2, .ref f3, .ref f4, .ref f5, .int (nI pfe), .ref f6, .ref f7, .ref f8, .ref f9, .ref f10, .int pfu, .int pfw])), (f4, .inl (cL, 60, .inr (.inl fbs)))]) [0, 1, 2] rfl
      have hD9 := hD.sub (ws' := [(x0, .inr (0, [.ref n0, .ref f0, .ref w0, .ref u0, .ref q0])), (f0, .inr (2, [.int (nI pfc), .ref f1, .ref f2, .ref f3, .ref f4, .ref f5, .int (nI pfe), .ref f6, .ref f7, .ref f8, .ref f9, .ref f10, .int pfu, .int pfw])), (f4, .inl (cL, 60, .inr (.inl fbs)))]) [0, 1, 2] (by decide) rfl
      subst hQ
      exact W.zret (v := 0) hx hb hr rfl (fun t9 ht9 hW => ⟨⟨0, (), rfl, (cnV_x (Or.inr (le_nlt hb2))), by rw [ht9]; exact hP9, hD9⟩, hS.F ht9⟩) hS.2.2 d_NU_concurrent_31
    · skip
      obtain ⟨j3, j3_l, rfl⟩ := ix_of2 (by omega) hb1 hb2
      refine lv_iload_n hx hb d_NU_concurrent_15 rfl (lv_at hl 2 rfl) ?_
      refine lv_if_lt (tgt := 30) hx hb d_NU_concurrent_16 (by decide) (fun hb4 => ?_) (fun hb4 => ?_)
      · skip
        refine lv_iconst (v := 0) hx hb d_NU_concurrent_30 (by decide) ?_
        have hP9 := hP.sub (ws' := [(x0, .inr (0, [.ref n0, .ref f0, .ref w0, .ref u0, .ref q0])), (f0, .inr (2, [.int (nI pfc), .ref f1, .ref f2, .ref f3, .ref f4, .ref f5, .int (nI pfe), .ref f6, .ref f7, .ref f8, .ref f9, .ref f10, .int pfu, .int pfw])), (f4, .inl (cL, 60, .inr (.inl fbs)))]) [0, 1, 2] rfl
        have hD9 := hD.sub (ws' := [(x0, .inr (0, [.ref n0, .ref f0, .ref w0, .ref u0, .ref q0])), (f0, .inr (2, [.int (nI pfc), .ref f1, .ref f2, .ref f3, .ref f4, .ref f5, .int (nI pfe), .ref f6, .ref f7, .ref f8, .ref f9, .ref f10, .int pfu, .int pfw])), (f4, .inl (cL, 60, .inr (.inl fbs)))]) [0, 1, 2] (by decide) rfl
        subst hQ
        exact W.zret (v := 0) hx hb hr rfl (fun t9 ht9 hW => ⟨⟨0, (), rfl, (cnV_y (Or.inl hb4)), by rw [ht9]; exact hP9, hD9⟩, hS.F ht9⟩) hS.2.2 d_NU_concurrent_31
      · skip
        refine lv_iload_n hx hb d_NU_concurrent_19 rfl (lv_at hl 2 rfl) ?_
        refine lv_aload_n hx hb d_NU_concurrent_20 rfl (lv_at hl 0 rfl) ?_
        refine va_get (D := (dC, dI)) (ci := 0) (v := .ref f0) (C := "NetUnfolder") (T := T_NU) (N := 5) hx hb ht in_NU hown hK hP 0 rfl rfl 1 (by decide) (ht _ wd_2_37) (fun _ h9 => h9) rfl d_NU_concurrent_21 ?_
        refine va_get (D := (dC, dI)) (ci := 2) (v := .int (nI pfc)) (C := "NetUnfolder$Prefix") (T := T_Pf) (N := 14) hx hb ht in_Pf hown hK hP 1 rfl rfl 0 (by decide) (ht _ wd_1_65) (fun _ h9 => h9) rfl d_NU_concurrent_24 ?_
        refine lv_icmp_lt (tgt := 32) hx hb d_NU_concurrent_27 (by decide) (fun hb5 => ?_) (fun hb5 => ?_)
        · skip
          obtain ⟨j6, j6_l, rfl⟩ := ix_of (by omega) hb4 hb5
          refine lv_aload_n hx hb d_NU_concurrent_32 rfl (lv_at hl 0 rfl) ?_
          refine va_get (D := (dC, dI)) (ci := 0) (v := .ref f0) (C := "NetUnfolder") (T := T_NU) (N := 5) hx hb ht in_NU hown hK hP 0 rfl rfl 1 (by decide) (ht _ wd_2_37) (fun _ h9 => h9) rfl d_NU_concurrent_33 ?_
          refine va_get (D := (dC, dI)) (ci := 2) (v := .ref f4) (C := "NetUnfolder$Prefix") (T := T_Pf) (N := 14) hx hb ht in_Pf hown hK hP 1 rfl rfl 4 (by decide) (ht _ wd_1_78) (fun _ h9 => h9) rfl d_NU_concurrent_36 ?_
          refine lv_iload_n hx hb d_NU_concurrent_39 rfl (lv_at hl 1 rfl) ?_
          refine na_lald (k := j3) hx hb hK hP 2 1 rfl rfl (by omega) (by decide) d_NU_concurrent_40 ?_
          refine lv_iload_n hx hb d_NU_concurrent_41 rfl (lv_at hl 2 rfl) ?_
          have hPc : va_P (dC, dI) clA [] _ := pu_P (H := s.heap)
          have hDc : va_D (fun _ => True) [] := pu_D
          have hFc := pu_free hS hA
          refine va_calli (va_runS (As := [.long (fbs j3), .int (nI j6)]) (rest := []) ⟨hx, hb, hml, hown, ht⟩ (c_NU_has l dC dI cI cL cZ _ (fbs j3) j6 (by first | assumption | omega | trivial | exact AllLt.zero | exact AllN.zero | exact AllM.zero | exact Or.inl rfl | exact Or.inr rfl)) (va_cwS 2 ht (good_S wd_3_0 wd_2_101 wd_1_1 wd_2_102) rfl rfl rfl (by decide +kernel) ⟨Nat.le_of_ble_eq_true rfl, Nat.le_of_ble_eq_true rfl⟩) ⟨fun a U g mk q => by obtain ⟨q0, q1, qP, qK, qD, qN⟩ := q; exact ⟨q0, q1, qP, va_K.moved (u := U) (U := U.calling g mk a) (Vm.Alike.refl U.vm) qK, qD, NwA.same (u := U) rfl qN⟩, fun U hU hW => ⟨rfl, by rw [hU], by rw [hU]; exact hPc, va_K.moved hW.alike hK, hDc.weaken (fun _ _ _ _ => trivial), NwA.warm hW hN⟩⟩ rfl rfl hl.1 rfl (lv_room (Nat.le_of_ble_eq_true rfl)) d_NU_concurrent_42 ⟨Nat.le_of_ble_eq_true rfl, Nat.le_of_ble_eq_true rfl⟩) hS (fun q _ h => hFc q h) hFc (fun r9 u9 t9 H7 locs ht9 hvm hw8 hB hz1 hk1 hSn => ?_)
          replace hP : va_P (dC, dI) clA [(x0, .inr (0, [.ref n0, .ref f0, .ref w0, .ref u0, .ref q0])), (f0, .inr (2, [.int (nI pfc), .ref f1, .ref f2, .ref f3, .ref f4, .ref f5, .int (nI pfe), .ref f6, .ref f7, .ref f8, .ref f9, .ref f10, .int pfu, .int pfw])), (f4, .inl (cL, 60, .inr (.inl fbs)))] H7 := pu_keep hP hk1
          replace hS := hSn
          clear hSn hPc hDc hFc hk1 hz1 ht9 hvm hB
          refine W.cs (cells' := 0) (slots' := 0) rfl rfl ?_
          subst hw8
          have h01 : hasv (fbs j3) j6 = 0 ∨ hasv (fbs j3) j6 = 1 := hasv_01 _ _
          have hP9 := hP.sub (ws' := [(x0, .inr (0, [.ref n0, .ref f0, .ref w0, .ref u0, .ref q0])), (f0, .inr (2, [.int (nI pfc), .ref f1, .ref f2, .ref f3, .ref f4, .ref f5, .int (nI pfe), .ref f6, .ref f7, .ref f8, .ref f9, .ref f10, .int pfu, .int pfw])), (f4, .inl (cL, 60, .inr (.inl fbs)))]) [0, 1, 2] rfl
          have hD9 := hD.sub (ws' := [(x0, .inr (0, [.ref n0, .ref f0, .ref w0, .ref u0, .ref q0])), (f0, .inr (2, [.int (nI pfc), .ref f1, .ref f2, .ref f3, .ref f4, .ref f5, .int (nI pfe), .ref f6, .ref f7, .ref f8, .ref f9, .ref f10, .int pfu, .int pfw])), (f4, .inl (cL, 60, .inr (.inl fbs)))]) [0, 1, 2] (by decide) rfl
          subst hQ
          exact W.zret (v := hasv (fbs j3) j6) hx hb hr (bz_nar (by assumption)) (fun t9 ht9 hW => ⟨⟨hasv (fbs j3) j6, (), rfl, (cnV_in j3_l j6_l (by omega) rfl), by rw [ht9]; exact hP9, hD9⟩, hS.F ht9⟩) hS.2.2 d_NU_concurrent_45
        · skip
          refine lv_iconst (v := 0) hx hb d_NU_concurrent_30 (by decide) ?_
          have hP9 := hP.sub (ws' := [(x0, .inr (0, [.ref n0, .ref f0, .ref w0, .ref u0, .ref q0])), (f0, .inr (2, [.int (nI pfc), .ref f1, .ref f2, .ref f3, .ref f4, .ref f5, .int (nI pfe), .ref f6, .ref f7, .ref f8, .ref f9, .ref f10, .int pfu, .int pfw])), (f4, .inl (cL, 60, .inr (.inl fbs)))]) [0, 1, 2] rfl
          have hD9 := hD.sub (ws' := [(x0, .inr (0, [.ref n0, .ref f0, .ref w0, .ref u0, .ref q0])), (f0, .inr (2, [.int (nI pfc), .ref f1, .ref f2, .ref f3, .ref f4, .ref f5, .int (nI pfe), .ref f6, .ref f7, .ref f8, .ref f9, .ref f10, .int pfu, .int pfw])), (f4, .inl (cL, 60, .inr (.inl fbs)))]) [0, 1, 2] (by decide) rfl
          subst hQ
          exact W.zret (v := 0) hx hb hr rfl (fun t9 ht9 hW => ⟨⟨0, (), rfl, (cnV_y (Or.inr hb5)), by rw [ht9]; exact hP9, hD9⟩, hS.F ht9⟩) hS.2.2 d_NU_concurrent_31

set_option maxHeartbeats 4000000 in
set_option maxRecDepth 100000 in
theorem e_Mo_concurrent (l : Launch) (dC : Nat → ClassId) (dI : Nat → Nat → Nat) (cI cL cZ : ClassId) (sz : Nat) (m0 : Nat) (m1 : Nat) (m2 : Nat) (m3 : Nat) (m4 : Nat) (m5 : Nat) (m6 : Nat) (m7 : Nat) (m8 : Nat) (m9 : Nat) (m10 : Nat) (m11 : Nat) (m12 : Nat) (m13 : Nat) (m14 : Nat) (m15 : Nat) (m16 : Nat) (m17 : Nat) (mth : Int32) (mt : Nat) (mf : Int32) (mcd : Nat) (mev : Nat) (mwh : Int32) (mps : Int32) (mlr : Int64) (mlt : Nat) (mlm : Nat) (mln : Int32) (gbs : Nat → Int64) (x : Int32) (y : Int32) (hcd : mcd ≤ 60) : Met l y_Mo_concurrent (Cond.code y_Mo_concurrent prog_11_method_41_code 3 (some .boolean) :: wsA) { frames := 1, cells := 0, slots := 0, locals := 22 } (va_Pc [.ref m0, .int x, .int y] (fun U => U.heap.size = sz ∧ va_P (dC, dI) clA [(m0, .inr (9, [.int mth, .int (nI mt), .ref m1, .ref m2, .int mf, .int (nI mcd), .ref m3, .ref m4, .ref m5, .ref m6, .int (nI mev), .ref m7, .ref m8, .ref m9, .ref m10, .ref m11, .ref m12, .ref m13, .int mwh, .int mps, .ref m14, .ref m15, .long mlr, .int (nI mlt), .int (nI mlm), .ref m16, .int mln, .ref m17])), (m6, .inl (cL, 60, .inr (.inl gbs)))] U.heap ∧ va_K (dC, dI) clA [(cI, .int), (cL, .long), (cZ, .boolean)] U ∧ va_D (fun _ => True) [(m0, .inr (9, [.int mth, .int (nI mt), .ref m1, .ref m2, .int mf, .int (nI mcd), .ref m3, .ref m4, .ref m5, .ref m6, .int (nI mev), .ref m7, .ref m8, .ref m9, .ref m10, .ref m11, .ref m12, .ref m13, .int mwh, .int mps, .ref m14, .ref m15, .long mlr, .int (nI mlt), .int (nI mlm), .ref m16, .int mln, .ref m17])), (m6, .inl (cL, 60, .inr (.inl gbs)))] ∧ NwA U)) (va_Qi (fun r (_ : Unit) => (r = cnV mcd gbs x y)) (fun _ t => va_P (dC, dI) clA [(m0, .inr (9, [.int 0, .int (nI mt), .ref m1, .ref m2, .int mf, .int (nI mcd), .ref m3, .ref m4, .ref m5, .ref m6, .int (nI mev), .ref m7, .ref m8, .ref m9, .ref m10, .ref m11, .ref m12, .ref m13, .int mwh, .int mps, .ref m14, .ref m15, .long mlr, .int (nI mlt), .int (nI mlm), .ref m16, .int mln, .ref m17])), (m6, .inl (cL, 60, .inr (.inl gbs)))] t.heap ∧ va_D (va_A [(m0, .inr (9, [.int mth, .int (nI mt), .ref m1, .ref m2, .int mf, .int (nI mcd), .ref m3, .ref m4, .ref m5, .ref m6, .int (nI mev), .ref m7, .ref m8, .ref m9, .ref m10, .ref m11, .ref m12, .ref m13, .int mwh, .int mps, .ref m14, .ref m15, .long mlr, .int (nI mlt), .int (nI mlm), .ref m16, .int mln, .ref m17])), (m6, .inl (cL, 60, .inr (.inl gbs)))] sz) [(m0, .inr (9, [.int 0, .int (nI mt), .ref m1, .ref m2, .int mf, .int (nI mcd), .ref m3, .ref m4, .ref m5, .ref m6, .int (nI mev), .ref m7, .ref m8, .ref m9, .ref m10, .ref m11, .ref m12, .ref m13, .int mwh, .int mps, .ref m14, .ref m15, .long mlr, .int (nI mlt), .int (nI mlm), .ref m16, .int mln, .ref m17])), (m6, .inl (cL, 60, .inr (.inl gbs)))]) (va_A [(m0, .inr (9, [.int mth, .int (nI mt), .ref m1, .ref m2, .int mf, .int (nI mcd), .ref m3, .ref m4, .ref m5, .ref m6, .int (nI mev), .ref m7, .ref m8, .ref m9, .ref m10, .ref m11, .ref m12, .ref m13, .int mwh, .int mps, .ref m14, .ref m15, .long mlr, .int (nI mlt), .int (nI mlm), .ref m16, .int mln, .ref m17])), (m6, .inl (cL, 60, .inr (.inl gbs)))] sz)) 0 0 (va_A [(m0, .inr (9, [.int mth, .int (nI mt), .ref m1, .ref m2, .int mf, .int (nI mcd), .ref m3, .ref m4, .ref m5, .ref m6, .int (nI mev), .ref m7, .ref m8, .ref m9, .ref m10, .ref m11, .ref m12, .ref m13, .int mwh, .int mps, .ref m14, .ref m15, .long mlr, .int (nI mlt), .int (nI mlm), .ref m16, .int mln, .ref m17])), (m6, .inl (cL, 60, .inr (.inl gbs)))] sz) := by
  refine Met.ofW (cc := prog_11_method_41_code) (maxL := 3) (ret := (some .boolean)) (by decide) rfl ?_
  intro p e s m args below meth c s₁ B hml hv
  obtain ⟨rfl, hsz, hP, hK, hD0, hN⟩ := hv
  have hx := B.exec
  have hb := B.bytes
  have hr := B.returns
  have ht : ∀ w ∈ wsA, w.before _ s = true := fun w h => atoms_spec (ws := (Cond.code y_Mo_concurrent prog_11_method_41_code 3 (some .boolean) :: wsA)) B.pre w (List.mem_cons_of_mem _ h)
  have hown : s.vm.findClass "NetUnfolderModel" = some m.cls := findClass_of_methodNamed B.named
  have hlocks := B.notSynchronized
  subst hsz
  have hD := hD0.self (sz := s.heap.size)
  generalize hAe : va_A [(m0, .inr (9, [.int mth, .int (nI mt), .ref m1, .ref m2, .int mf, .int (nI mcd), .ref m3, .ref m4, .ref m5, .ref m6, .int (nI mev), .ref m7, .ref m8, .ref m9, .ref m10, .ref m11, .ref m12, .ref m13, .int mwh, .int mps, .ref m14, .ref m15, .long mlr, .int (nI mlt), .int (nI mlm), .ref m16, .int mln, .ref m17])), (m6, .inl (cL, 60, .inr (.inl gbs)))] s.heap.size = A at hD ⊢
  have hA : ∀ q : Nat, s.heap.size ≤ q → A q := fun q h => by rw [← hAe]; exact Or.inr h
  have hS : va_S A s.heap s.heap [] := va_S.rf
  have hl := lv_entry ([.ref m0, .int x, .int y]) (n := 3) (Nat.le_of_ble_eq_true rfl)
  rw [lg_entry_eq]
  generalize (lg_sl ([.ref m0, .int x, .int y]) ++ List.replicate (3 - (lg_sl ([.ref m0, .int x, .int y])).length) Slot.unset).toArray = ls at hl ⊢
  replace hl : lv_has ls 3 [(0, .ref m0), (1, .int x), (2, .int y)] := hl
  refine W_Q (fun Q hQ => ?_)
  refine lv_aload_n hx hb d_Mo_concurrent_0 rfl (lv_at hl 0 rfl) ?_
  refine lv_iconst (v := 0) hx hb d_Mo_concurrent_1 (by decide) ?_
  refine va_put (D := (dC, dI)) (ci := 9) (v := .int 0) (ty := .int) (C := "NetUnfolderModel") (T := T_Mo) (N := 28) hx hb ht in_Mo ty_Mo ok_Mo nm_Mo hown hK hP hD hS 0 rfl rfl 0 (by decide) (ht _ wd_4_0) (fun _ h9 => h9) rfl (by decide +kernel) rfl rfl (Nat.le_of_ble_eq_true rfl) d_Mo_concurrent_2 (fun H1 locs hPn hDn hSn => ?_)
  replace hP : va_P (dC, dI) clA [(m0, .inr (9, [.int 0, .int (nI mt), .ref m1, .ref m2, .int mf, .int (nI mcd), .ref m3, .ref m4, .ref m5, .ref m6, .int (nI mev), .ref m7, .ref m8, .ref m9, .ref m10, .ref m11, .ref m12, .ref m13, .int mwh, .int mps, .ref m14, .ref m15, .long mlr, .int (nI mlt), .int (nI mlm), .ref m16, .int mln, .ref m17])), (m6, .inl (cL, 60, .inr (.inl gbs)))] H1 := hPn
  replace hD : va_D A [(m0, .inr (9, [.int 0, .int (nI mt), .ref m1, .ref m2, .int mf, .int (nI mcd), .ref m3, .ref m4, .ref m5, .ref m6, .int (nI mev), .ref m7, .ref m8, .ref m9, .ref m10, .ref m11, .ref m12, .ref m13, .int mwh, .int mps, .ref m14, .ref m15, .long mlr, .int (nI mlt), .int (nI mlm), .ref m16, .int mln, .ref m17])), (m6, .inl (cL, 60, .inr (.inl gbs)))] := hDn
  replace hS := hSn
  clear hPn hDn hSn
  refine lv_iload_n hx hb d_Mo_concurrent_5 rfl (lv_at hl 1 rfl) ?_
  refine lv_iconst (v := 0) hx hb d_Mo_concurrent_6 (by decide) ?_
  refine lv_aload_n hx hb d_Mo_concurrent_7 rfl (lv_at hl 0 rfl) ?_
  refine va_get (D := (dC, dI)) (ci := 9) (v := .int (nI mcd)) (C := "NetUnfolderModel") (T := T_Mo) (N := 28) hx hb ht in_Mo hown hK hP 0 rfl rfl 5 (by decide) (ht _ wd_4_5) (fun _ h9 => h9) rfl d_Mo_concurrent_8 ?_
  refine lv_iconst (v := 1) hx hb d_Mo_concurrent_11 (by decide) ?_
  refine lv_isub hx hb d_Mo_concurrent_12 ?_
  have hPc : va_P (dC, dI) clA [] _ := pu_P (H := H1)
  have hDc : va_D (fun _ => True) [] := pu_D
  have hFc := pu_free hS hA
  refine va_calli (va_runS (As := [.int x, .int 0, .int ((nI mcd) - 1)]) (rest := []) ⟨hx, hb, hml, hown, ht⟩ (c_Mo_outside l dC dI cI cL cZ _ x 0 ((nI mcd) - 1) ) (va_cwS 3 ht (good_S wd_4_90 wd_4_91 wd_1_10 wd_4_92) rfl rfl rfl (by decide +kernel) ⟨Nat.le_of_ble_eq_true rfl, Nat.le_of_ble_eq_true rfl⟩) ⟨fun a U g mk q => by obtain ⟨q0, q1, qP, qK, qD, qN⟩ := q; exact ⟨q0, q1, qP, va_K.moved (u := U) (U := U.calling g mk a) (Vm.Alike.refl U.vm) qK, qD, NwA.same (u := U) rfl qN⟩, fun U hU hW => ⟨rfl, by rw [hU], by rw [hU]; exact hPc, va_K.moved hW.alike hK, hDc.weaken (fun _ _ _ _ => trivial), NwA.warm hW hN⟩⟩ rfl rfl hl.1 rfl (lv_room (Nat.le_of_ble_eq_true rfl)) d_Mo_concurrent_13 ⟨Nat.le_of_ble_eq_true rfl, Nat.le_of_ble_eq_true rfl⟩) hS (fun q _ h => hFc q h) hFc (fun r4 u9 t9 H2 locs ht9 hvm hw3 hB hz1 hk1 hSn => ?_)
  replace hP : va_P (dC, dI) clA [(m0, .inr (9, [.int 0, .int (nI mt), .ref m1, .ref m2, .int mf, .int (nI mcd), .ref m3, .ref m4, .ref m5, .ref m6, .int (nI mev), .ref m7, .ref m8, .ref m9, .ref m10, .ref m11, .ref m12, .ref m13, .int mwh, .int mps, .ref m14, .ref m15, .long mlr, .int (nI mlt), .int (nI mlm), .ref m16, .int mln, .ref m17])), (m6, .inl (cL, 60, .inr (.inl gbs)))] H2 := pu_keep hP hk1
  replace hS := hSn
  clear hSn hPc hDc hFc hk1 hz1 ht9 hvm hB
  refine W.cs (cells' := 0) (slots' := 0) rfl rfl ?_
  have hr5 := hw3
  refine lv_if_ne (tgt := 50) hx hb d_Mo_concurrent_16 (by decide) (fun hb6 => ?_) (fun hb6 => ?_)
  · skip
    refine lv_iconst (v := 0) hx hb d_Mo_concurrent_50 (by decide) ?_
    have hP9 := hP.sub (ws' := [(m0, .inr (9, [.int 0, .int (nI mt), .ref m1, .ref m2, .int mf, .int (nI mcd), .ref m3, .ref m4, .ref m5, .ref m6, .int (nI mev), .ref m7, .ref m8, .ref m9, .ref m10, .ref m11, .ref m12, .ref m13, .int mwh, .int mps, .ref m14, .ref m15, .long mlr, .int (nI mlt), .int (nI mlm), .ref m16, .int mln, .ref m17])), (m6, .inl (cL, 60, .inr (.inl gbs)))]) [0, 1] rfl
    have hD9 := hD.sub (ws' := [(m0, .inr (9, [.int 0, .int (nI mt), .ref m1, .ref m2, .int mf, .int (nI mcd), .ref m3, .ref m4, .ref m5, .ref m6, .int (nI mev), .ref m7, .ref m8, .ref m9, .ref m10, .ref m11, .ref m12, .ref m13, .int mwh, .int mps, .ref m14, .ref m15, .long mlr, .int (nI mlt), .int (nI mlm), .ref m16, .int mln, .ref m17])), (m6, .inl (cL, 60, .inr (.inl gbs)))]) [0, 1] (by decide) rfl
    subst hQ
    exact W.zret (v := 0) hx hb hr rfl (fun t9 ht9 hW => ⟨⟨0, (), rfl, (cnV_x (out_ge (by omega) (out_1 hr5 hb6))), by rw [ht9]; exact hP9, hD9⟩, hS.F ht9⟩) hS.2.2 d_Mo_concurrent_51
  · skip
    have ho8 := out_0 hr5 hb6
    obtain ⟨j7, j7_l, rfl⟩ := ix_out (by omega) ho8.1 ho8.2
    refine lv_iload_n hx hb d_Mo_concurrent_19 rfl (lv_at hl 2 rfl) ?_
    refine lv_iconst (v := 0) hx hb d_Mo_concurrent_20 (by decide) ?_
    refine lv_aload_n hx hb d_Mo_concurrent_21 rfl (lv_at hl 0 rfl) ?_
    refine va_get (D := (dC, dI)) (ci := 9) (v := .int (nI mcd)) (C := "NetUnfolderModel") (T := T_Mo) (N := 28) hx hb ht in_Mo hown hK hP 0 rfl rfl 5 (by decide) (ht _ wd_4_5) (fun _ h9 => h9) rfl d_Mo_concurrent_22 ?_
    refine lv_iconst (v := 1) hx hb d_Mo_concurrent_25 (by decide) ?_
    refine lv_isub hx hb d_Mo_concurrent_26 ?_
    have hPc : va_P (dC, dI) clA [] _ := pu_P (H := H2)
    have hDc : va_D (fun _ => True) [] := pu_D
    have hFc := pu_free hS hA
    refine va_calli (va_runS (As := [.int y, .int 0, .int ((nI mcd) - 1)]) (rest := []) ⟨hx, hb, hml, hown, ht⟩ (c_Mo_outside l dC dI cI cL cZ _ y 0 ((nI mcd) - 1) ) (va_cwS 3 ht (good_S wd_4_90 wd_4_91 wd_1_10 wd_4_92) rfl rfl rfl (by decide +kernel) ⟨Nat.le_of_ble_eq_true rfl, Nat.le_of_ble_eq_true rfl⟩) ⟨fun a U g mk q => by obtain ⟨q0, q1, qP, qK, qD, qN⟩ := q; exact ⟨q0, q1, qP, va_K.moved (u := U) (U := U.calling g mk a) (Vm.Alike.refl U.vm) qK, qD, NwA.same (u := U) rfl qN⟩, fun U hU hW => ⟨rfl, by rw [hU], by rw [hU]; exact hPc, va_K.moved hW.alike hK, hDc.weaken (fun _ _ _ _ => trivial), NwA.warm hW hN⟩⟩ rfl rfl hl.1 rfl (lv_room (Nat.le_of_ble_eq_true rfl)) d_Mo_concurrent_27 ⟨Nat.le_of_ble_eq_true rfl, Nat.le_of_ble_eq_true rfl⟩) hS (fun q _ h => hFc q h) hFc (fun r11 u9 t9 H9 locs ht9 hvm hw10 hB hz1 hk1 hSn => ?_)
    replace hP : va_P (dC, dI) clA [(m0, .inr (9, [.int 0, .int (nI mt), .ref m1, .ref m2, .int mf, .int (nI mcd), .ref m3, .ref m4, .ref m5, .ref m6, .int (nI mev), .ref m7, .ref m8, .ref m9, .ref m10, .ref m11, .ref m12, .ref m13, .int mwh, .int mps, .ref m14, .ref m15, .long mlr, .int (nI mlt), .int (nI mlm), .ref m16, .int mln, .ref m17])), (m6, .inl (cL, 60, .inr (.inl gbs)))] H9 := pu_keep hP hk1
    replace hS := hSn
    clear hSn hPc hDc hFc hk1 hz1 ht9 hvm hB
    refine W.cs (cells' := 0) (slots' := 0) rfl rfl ?_
    have hr12 := hw10
    refine lv_if_ne (tgt := 50) hx hb d_Mo_concurrent_30 (by decide) (fun hb13 => ?_) (fun hb13 => ?_)
    · skip
      refine lv_iconst (v := 0) hx hb d_Mo_concurrent_50 (by decide) ?_
      have hP9 := hP.sub (ws' := [(m0, .inr (9, [.int 0, .int (nI mt), .ref m1, .ref m2, .int mf, .int (nI mcd), .ref m3, .ref m4, .ref m5, .ref m6, .int (nI mev), .ref m7, .ref m8, .ref m9, .ref m10, .ref m11, .ref m12, .ref m13, .int mwh, .int mps, .ref m14, .ref m15, .long mlr, .int (nI mlt), .int (nI mlm), .ref m16, .int mln, .ref m17])), (m6, .inl (cL, 60, .inr (.inl gbs)))]) [0, 1] rfl
      have hD9 := hD.sub (ws' := [(m0, .inr (9, [.int 0, .int (nI mt), .ref m1, .ref m2, .int mf, .int (nI mcd), .ref m3, .ref m4, .ref m5, .ref m6, .int (nI mev), .ref m7, .ref m8, .ref m9, .ref m10, .ref m11, .ref m12, .ref m13, .int mwh, .int mps, .ref m14, .ref m15, .long mlr, .int (nI mlt), .int (nI mlm), .ref m16, .int mln, .ref m17])), (m6, .inl (cL, 60, .inr (.inl gbs)))]) [0, 1] (by decide) rfl
      subst hQ
      exact W.zret (v := 0) hx hb hr rfl (fun t9 ht9 hW => ⟨⟨0, (), rfl, (cnV_y (out_ge (by omega) (out_1 hr12 hb13))), by rw [ht9]; exact hP9, hD9⟩, hS.F ht9⟩) hS.2.2 d_Mo_concurrent_51
    · skip
      have ho15 := out_0 hr12 hb13
      obtain ⟨j14, j14_l, rfl⟩ := ix_out (by omega) ho15.1 ho15.2
      refine lv_aload_n hx hb d_Mo_concurrent_33 rfl (lv_at hl 0 rfl) ?_
      refine va_get (D := (dC, dI)) (ci := 9) (v := .ref m6) (C := "NetUnfolderModel") (T := T_Mo) (N := 28) hx hb ht in_Mo hown hK hP 0 rfl rfl 9 (by decide) (ht _ wd_4_9) (fun _ h9 => h9) rfl d_Mo_concurrent_34 ?_
      refine lv_iload_n hx hb d_Mo_concurrent_37 rfl (lv_at hl 1 rfl) ?_
      refine na_lald (k := j7) hx hb hK hP 1 1 rfl rfl (by omega) (by decide) d_Mo_concurrent_38 ?_
      refine lv_iload_n hx hb d_Mo_concurrent_39 rfl (lv_at hl 2 rfl) ?_
      have hPc : va_P (dC, dI) clA [] _ := pu_P (H := H9)
      have hDc : va_D (fun _ => True) [] := pu_D
      have hFc := pu_free hS hA
      refine va_calli (va_runS (As := [.long (gbs j7), .int (nI j14)]) (rest := []) ⟨hx, hb, hml, hown, ht⟩ (c_Mo_has l dC dI cI cL cZ _ (gbs j7) j14 (by first | assumption | omega | trivial | exact AllLt.zero | exact AllN.zero | exact AllM.zero | exact Or.inl rfl | exact Or.inr rfl)) (va_cwS 2 ht (good_S wd_4_121 wd_4_122 wd_1_10 wd_4_123) rfl rfl rfl (by decide +kernel) ⟨Nat.le_of_ble_eq_true rfl, Nat.le_of_ble_eq_true rfl⟩) ⟨fun a U g mk q => by obtain ⟨q0, q1, qP, qK, qD, qN⟩ := q; exact ⟨q0, q1, qP, va_K.moved (u := U) (U := U.calling g mk a) (Vm.Alike.refl U.vm) qK, qD, NwA.same (u := U) rfl qN⟩, fun U hU hW => ⟨rfl, by rw [hU], by rw [hU]; exact hPc, va_K.moved hW.alike hK, hDc.weaken (fun _ _ _ _ => trivial), NwA.warm hW hN⟩⟩ rfl rfl hl.1 rfl (lv_room (Nat.le_of_ble_eq_true rfl)) d_Mo_concurrent_40 ⟨Nat.le_of_ble_eq_true rfl, Nat.le_of_ble_eq_true rfl⟩) hS (fun q _ h => hFc q h) hFc (fun r18 u9 t9 H16 locs ht9 hvm hw17 hB hz1 hk1 hSn => ?_)
      replace hP : va_P (dC, dI) clA [(m0, .inr (9, [.int 0, .int (nI mt), .ref m1, .ref m2, .int mf, .int (nI mcd), .ref m3, .ref m4, .ref m5, .ref m6, .int (nI mev), .ref m7, .ref m8, .ref m9, .ref m10, .ref m11, .ref m12, .ref m13, .int mwh, .int mps, .ref m14, .ref m15, .long mlr, .int (nI mlt), .int (nI mlm), .ref m16, .int mln, .ref m17])), (m6, .inl (cL, 60, .inr (.inl gbs)))] H16 := pu_keep hP hk1
      replace hS := hSn
      clear hSn hPc hDc hFc hk1 hz1 ht9 hvm hB
      refine W.cs (cells' := 0) (slots' := 0) rfl rfl ?_
      subst hw17
      refine lv_if_eq (tgt := 50) hx hb d_Mo_concurrent_43 (by decide) (fun hb19 => ?_) (fun hb19 => ?_)
      · skip
        refine lv_iconst (v := 0) hx hb d_Mo_concurrent_50 (by decide) ?_
        have hP9 := hP.sub (ws' := [(m0, .inr (9, [.int 0, .int (nI mt), .ref m1, .ref m2, .int mf, .int (nI mcd), .ref m3, .ref m4, .ref m5, .ref m6, .int (nI mev), .ref m7, .ref m8, .ref m9, .ref m10, .ref m11, .ref m12, .ref m13, .int mwh, .int mps, .ref m14, .ref m15, .long mlr, .int (nI mlt), .int (nI mlm), .ref m16, .int mln, .ref m17])), (m6, .inl (cL, 60, .inr (.inl gbs)))]) [0, 1] rfl
        have hD9 := hD.sub (ws' := [(m0, .inr (9, [.int 0, .int (nI mt), .ref m1, .ref m2, .int mf, .int (nI mcd), .ref m3, .ref m4, .ref m5, .ref m6, .int (nI mev), .ref m7, .ref m8, .ref m9, .ref m10, .ref m11, .ref m12, .ref m13, .int mwh, .int mps, .ref m14, .ref m15, .long mlr, .int (nI mlt), .int (nI mlm), .ref m16, .int mln, .ref m17])), (m6, .inl (cL, 60, .inr (.inl gbs)))]) [0, 1] (by decide) rfl
        subst hQ
        exact W.zret (v := 0) hx hb hr rfl (fun t9 ht9 hW => ⟨⟨0, (), rfl, (cnV_in j7_l j14_l (by omega) hb19), by rw [ht9]; exact hP9, hD9⟩, hS.F ht9⟩) hS.2.2 d_Mo_concurrent_51
      · skip
        refine lv_iconst (v := 1) hx hb d_Mo_concurrent_46 (by decide) ?_
        refine lv_goto (tgt := 51) hx hb d_Mo_concurrent_47 (by decide) ?_
        have hP9 := hP.sub (ws' := [(m0, .inr (9, [.int 0, .int (nI mt), .ref m1, .ref m2, .int mf, .int (nI mcd), .ref m3, .ref m4, .ref m5, .ref m6, .int (nI mev), .ref m7, .ref m8, .ref m9, .ref m10, .ref m11, .ref m12, .ref m13, .int mwh, .int mps, .ref m14, .ref m15, .long mlr, .int (nI mlt), .int (nI mlm), .ref m16, .int mln, .ref m17])), (m6, .inl (cL, 60, .inr (.inl gbs)))]) [0, 1] rfl
        have hD9 := hD.sub (ws' := [(m0, .inr (9, [.int 0, .int (nI mt), .ref m1, .ref m2, .int mf, .int (nI mcd), .ref m3, .ref m4, .ref m5, .ref m6, .int (nI mev), .ref m7, .ref m8, .ref m9, .ref m10, .ref m11, .ref m12, .ref m13, .int mwh, .int mps, .ref m14, .ref m15, .long mlr, .int (nI mlt), .int (nI mlm), .ref m16, .int mln, .ref m17])), (m6, .inl (cL, 60, .inr (.inl gbs)))]) [0, 1] (by decide) rfl
        subst hQ
        exact W.zret (v := 1) hx hb hr rfl (fun t9 ht9 hW => ⟨⟨1, (), rfl, (cnV_in j7_l j14_l (by omega) (hasv_if hb19)), by rw [ht9]; exact hP9, hD9⟩, hS.F ht9⟩) hS.2.2 d_Mo_concurrent_51
