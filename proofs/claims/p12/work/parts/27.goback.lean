set_option maxHeartbeats 4000000 in
set_option maxRecDepth 100000 in
theorem c_Se_goBack (l : Launch) (dC : Nat → ClassId) (dI : Nat → Nat → Nat) (cI cL cZ : ClassId) (sz : Nat) (s0 : Nat) (k0 : Nat) (s1 : Nat) (s2 : Nat) (s3 : Nat) (sy : Int64) (sn : Int64) (slv : Nat) (sts : Nat) (ssa : Nat → Int64) (stl : Nat → Int32) (srs : Nat → Int32) (tg : Nat) (hsi : SeI sy sn slv sts ssa) (hstl : AllLt stl 38 38) (hsrs : AllN srs 38 815) (htg : tg ≤ slv) : Met l y_Se_goBack (Cond.code y_Se_goBack prog_7_method_10_code 3 none :: wsA) { frames := 1, cells := 0, slots := 0, locals := 21 } (va_Pc [.ref s0, .int (nI tg)] (fun U => U.heap.size = sz ∧ va_P (dC, dI) clA [(s0, .inr (8, [.ref k0, .long sy, .long sn, .int (nI slv), .ref s1, .ref s2, .int (nI sts), .ref s3])), (s1, .inl (cL, 39, .inr (.inl ssa)))] U.heap ∧ va_K (dC, dI) clA [(cI, .int), (cL, .long), (cZ, .boolean)] U ∧ va_D (fun _ => True) [(s0, .inr (8, [.ref k0, .long sy, .long sn, .int (nI slv), .ref s1, .ref s2, .int (nI sts), .ref s3])), (s1, .inl (cL, 39, .inr (.inl ssa)))] ∧ NwA U)) (va_Qv (fun _ : Unit => True) (fun _ t => ∃ (sy1 : Int64), ∃ (sn1 : Int64), ∃ (sts1 : Nat), ∃ (ssa1 : Nat → Int64), (SeI sy1 sn1 tg sts1 ssa1) ∧ va_P (dC, dI) clA [(s0, .inr (8, [.ref k0, .long sy1, .long sn1, .int (nI tg), .ref s1, .ref s2, .int (nI sts1), .ref s3])), (s1, .inl (cL, 39, .inr (.inl ssa1)))] t.heap ∧ va_D (va_A [(s0, .inr (8, [.ref k0, .long sy, .long sn, .int (nI slv), .ref s1, .ref s2, .int (nI sts), .ref s3])), (s1, .inl (cL, 39, .inr (.inl ssa)))] sz) [(s0, .inr (8, [.ref k0, .long sy1, .long sn1, .int (nI tg), .ref s1, .ref s2, .int (nI sts1), .ref s3])), (s1, .inl (cL, 39, .inr (.inl ssa1)))]) (va_A [(s0, .inr (8, [.ref k0, .long sy, .long sn, .int (nI slv), .ref s1, .ref s2, .int (nI sts), .ref s3])), (s1, .inl (cL, 39, .inr (.inl ssa)))] sz)) 0 0 (va_A [(s0, .inr (8, [.ref k0, .long sy, .long sn, .int (nI slv), .ref s1, .ref s2, .int (nI sts), .ref s3])), (s1, .inl (cL, 39, .inr (.inl ssa)))] sz) := by
  refine Met.ofW (cc := prog_7_method_10_code) (maxL := 3) (ret := none) (by decide) rfl ?_
  intro p e s m args below meth c s₁ B hml hv
  obtain ⟨rfl, hsz, hP, hK, hD0, hN⟩ := hv
  have hx := B.exec
  have hb := B.bytes
  have hr := B.returns
  have ht : ∀ w ∈ wsA, w.before _ s = true := fun w h => atoms_spec (ws := (Cond.code y_Se_goBack prog_7_method_10_code 3 none :: wsA)) B.pre w (List.mem_cons_of_mem _ h)
  have hown : s.vm.findClass "NetUnfolder$Search" = some m.cls := findClass_of_methodNamed B.named
  have hlocks := B.notSynchronized
  subst hsz
  have hD := hD0.self (sz := s.heap.size)
  generalize hAe : va_A [(s0, .inr (8, [.ref k0, .long sy, .long sn, .int (nI slv), .ref s1, .ref s2, .int (nI sts), .ref s3])), (s1, .inl (cL, 39, .inr (.inl ssa)))] s.heap.size = A at hD ⊢
  have hA : ∀ q : Nat, s.heap.size ≤ q → A q := fun q h => by rw [← hAe]; exact Or.inr h
  have hS : va_S A s.heap s.heap [] := va_S.rf
  have hl := lv_entry ([.ref s0, .int (nI tg)]) (n := 3) (Nat.le_of_ble_eq_true rfl)
  rw [lg_entry_eq]
  generalize (lg_sl ([.ref s0, .int (nI tg)]) ++ List.replicate (3 - (lg_sl ([.ref s0, .int (nI tg)])).length) Slot.unset).toArray = ls at hl ⊢
  replace hl : lv_has ls 3 [(0, .ref s0), (1, .int (nI tg))] := hl
  refine W_Q (fun Q hQ => ?_)
  have hb1 := hsi.bounds
  refine lv_aload_n hx hb d_Se_goBack_0 rfl (lv_at hl 0 rfl) ?_
  refine va_get (D := (dC, dI)) (ci := 8) (v := .int (nI slv)) (C := "NetUnfolder$Search") (T := T_Se) (N := 8) hx hb ht in_Se hown hK hP 0 rfl rfl 3 (by decide) (ht _ wd_1_235) (fun _ h9 => h9) rfl d_Se_goBack_1 ?_
  refine lv_istore_n (lv' := [(2, .int (nI slv)), (0, .ref s0), (1, .int (nI tg))]) hx hb d_Se_goBack_4 rfl hl (by decide) rfl (fun ls hln => ?_)
  replace hl : lv_has ls 3 [(2, .int (nI slv)), (0, .ref s0), (1, .int (nI tg))] := hln
  clear hln
  have hloop1 : ∀ (n5 : Nat) (i : Nat) (sy2 : Int64) (sn2 : Int64) (sts2 : Nat) (ssa2 : Nat → Int64) (hi : tg ≤ i) (hi2 : i ≤ 38) (hsi2 : SeI sy2 sn2 i sts2 ssa2) (H : Heap) (locs : List Loc) (ls : Array Slot) (hl : lv_has ls 3 [(0, .ref s0), (1, .int (nI tg)), (2, .int (nI i))]) (hP : va_P (dC, dI) clA [(s0, .inr (8, [.ref k0, .long sy2, .long sn2, .int (nI slv), .ref s1, .ref s2, .int (nI sts2), .ref s3])), (s1, .inl (cL, 39, .inr (.inl ssa2)))] H) (hD : va_D A [(s0, .inr (8, [.ref k0, .long sy2, .long sn2, .int (nI slv), .ref s1, .ref s2, .int (nI sts2), .ref s3])), (s1, .inl (cL, 39, .inr (.inl ssa2)))]) (hS : va_S A s.heap H locs) (hm5 : i < n5), W p l e (headSpec (Cond.code y_Se_goBack prog_7_method_10_code 3 none :: wsA) { frames := 1, cells := 0, slots := 0, locals := 21 }).room s m ([.ref s0, .int (nI tg)] : List Value).toArray below meth c H locs 0 0 Q (F0 m 5 ls []) := by
    clear hl hP hD hS
    intro n5
    induction n5 with
    | zero => intro i sy2 sn2 sts2 ssa2 hi hi2 hsi2 H locs ls hl hP hD hS hm; exact absurd hm (Nat.not_lt_zero _)
    | succ n5 hloop1_ih =>
      intro i sy2 sn2 sts2 ssa2 hi hi2 hsi2 H locs ls hl hP hD hS hm5
      refine lv_iload_n hx hb d_Se_goBack_5 rfl (lv_at hl 2 rfl) ?_
      refine lv_iload_n hx hb d_Se_goBack_6 rfl (lv_at hl 1 rfl) ?_
      refine lv_icmp_le (tgt := 79) hx hb d_Se_goBack_7 (by decide) (fun hb2 => ?_) (fun hb2 => ?_)
      · skip
        replace hb2 := cv_le (a := i) (b := tg) (by omega) (by omega) hb2
        refine lv_aload_n hx hb d_Se_goBack_79 rfl (lv_at hl 0 rfl) ?_
        refine lv_iload_n hx hb d_Se_goBack_80 rfl (lv_at hl 1 rfl) ?_
        refine va_put (D := (dC, dI)) (ci := 8) (v := .int (nI tg)) (ty := .int) (C := "NetUnfolder$Search") (T := T_Se) (N := 8) hx hb ht in_Se ty_Se ok_Se nm_Se hown hK hP hD hS 0 rfl rfl 3 (by decide) (ht _ wd_1_235) (fun _ h9 => h9) rfl (by decide +kernel) rfl rfl (Nat.le_of_ble_eq_true rfl) d_Se_goBack_81 (fun H3 locs hPn hDn hSn => ?_)
        replace hP : va_P (dC, dI) clA [(s0, .inr (8, [.ref k0, .long sy2, .long sn2, .int (nI tg), .ref s1, .ref s2, .int (nI sts2), .ref s3])), (s1, .inl (cL, 39, .inr (.inl ssa2)))] H3 := hPn
        replace hD : va_D A [(s0, .inr (8, [.ref k0, .long sy2, .long sn2, .int (nI tg), .ref s1, .ref s2, .int (nI sts2), .ref s3])), (s1, .inl (cL, 39, .inr (.inl ssa2)))] := hDn
        replace hS := hSn
        clear hPn hDn hSn
        have hP9 := hP.sub (ws' := [(s0, .inr (8, [.ref k0, .long sy2, .long sn2, .int (nI tg), .ref s1, .ref s2, .int (nI sts2), .ref s3])), (s1, .inl (cL, 39, .inr (.inl ssa2)))]) [0, 1] rfl
        have hD9 := hD.sub (ws' := [(s0, .inr (8, [.ref k0, .long sy2, .long sn2, .int (nI tg), .ref s1, .ref s2, .int (nI sts2), .ref s3])), (s1, .inl (cL, 39, .inr (.inl ssa2)))]) [0, 1] (by decide) rfl
        subst hQ
        exact W.vret hx hb hr (fun t9 ht9 hW => ⟨⟨(), rfl, trivial, sy2, sn2, sts2, ssa2, (by have e9 : i = tg := (by omega); subst e9; assumption), by rw [ht9]; exact hP9, hD9⟩, hS.F ht9⟩) hS.2.2 d_Se_goBack_84
      · skip
        replace hb2 := cv_nle (a := i) (b := tg) (by omega) (by omega) hb2
        have hb2 := hsi2.bounds
        have hdn : pcount (ssa2 i) ≤ sts2 := by obtain ⟨k, rfl⟩ : ∃ k, i = k + 1 := ⟨i - 1, by omega⟩; exact (SeI.down hsi2).2
        refine lv_aload_n hx hb d_Se_goBack_10 rfl (lv_at hl 0 rfl) ?_
        refine lv_dup hx hb d_Se_goBack_11 rfl ?_
        refine va_get (D := (dC, dI)) (ci := 8) (v := .long sy2) (C := "NetUnfolder$Search") (T := T_Se) (N := 8) hx hb ht in_Se hown hK hP 0 rfl rfl 1 (by decide) (ht _ wd_1_233) (fun _ h9 => h9) rfl d_Se_goBack_12 ?_
        refine lv_aload_n hx hb d_Se_goBack_15 rfl (lv_at hl 0 rfl) ?_
        refine va_get (D := (dC, dI)) (ci := 8) (v := .ref s1) (C := "NetUnfolder$Search") (T := T_Se) (N := 8) hx hb ht in_Se hown hK hP 0 rfl rfl 4 (by decide) (ht _ wd_1_236) (fun _ h9 => h9) rfl d_Se_goBack_16 ?_
        refine lv_iload_n hx hb d_Se_goBack_19 rfl (lv_at hl 2 rfl) ?_
        refine na_lald (k := i) hx hb hK hP 1 1 rfl rfl (by omega) (by decide) d_Se_goBack_20 ?_
        refine lv_ldc2 hx hb hown (ht _ wd_3_160) d_Se_goBack_21 ?_
        refine lv_lxor hx hb d_Se_goBack_24 ?_
        refine lv_land hx hb d_Se_goBack_25 ?_
        refine va_put (D := (dC, dI)) (ci := 8) (v := .long (sy2 &&& ((ssa2 i) ^^^ (-1)))) (ty := .long) (C := "NetUnfolder$Search") (T := T_Se) (N := 8) hx hb ht in_Se ty_Se ok_Se nm_Se hown hK hP hD hS 0 rfl rfl 1 (by decide) (ht _ wd_1_233) (fun _ h9 => h9) rfl (by decide +kernel) rfl rfl (Nat.le_of_ble_eq_true rfl) d_Se_goBack_26 (fun H4 locs hPn hDn hSn => ?_)
        replace hP : va_P (dC, dI) clA [(s0, .inr (8, [.ref k0, .long (sy2 &&& ((ssa2 i) ^^^ (-1))), .long sn2, .int (nI slv), .ref s1, .ref s2, .int (nI sts2), .ref s3])), (s1, .inl (cL, 39, .inr (.inl ssa2)))] H4 := hPn
        replace hD : va_D A [(s0, .inr (8, [.ref k0, .long (sy2 &&& ((ssa2 i) ^^^ (-1))), .long sn2, .int (nI slv), .ref s1, .ref s2, .int (nI sts2), .ref s3])), (s1, .inl (cL, 39, .inr (.inl ssa2)))] := hDn
        replace hS := hSn
        clear hPn hDn hSn
        refine lv_aload_n hx hb d_Se_goBack_29 rfl (lv_at hl 0 rfl) ?_
        refine lv_dup hx hb d_Se_goBack_30 rfl ?_
        refine va_get (D := (dC, dI)) (ci := 8) (v := .long sn2) (C := "NetUnfolder$Search") (T := T_Se) (N := 8) hx hb ht in_Se hown hK hP 0 rfl rfl 2 (by decide) (ht _ wd_1_234) (fun _ h9 => h9) rfl d_Se_goBack_31 ?_
        refine lv_aload_n hx hb d_Se_goBack_34 rfl (lv_at hl 0 rfl) ?_
        refine va_get (D := (dC, dI)) (ci := 8) (v := .ref s1) (C := "NetUnfolder$Search") (T := T_Se) (N := 8) hx hb ht in_Se hown hK hP 0 rfl rfl 4 (by decide) (ht _ wd_1_236) (fun _ h9 => h9) rfl d_Se_goBack_35 ?_
        refine lv_iload_n hx hb d_Se_goBack_38 rfl (lv_at hl 2 rfl) ?_
        refine na_lald (k := i) hx hb hK hP 1 1 rfl rfl (by omega) (by decide) d_Se_goBack_39 ?_
        refine lv_ldc2 hx hb hown (ht _ wd_3_160) d_Se_goBack_40 ?_
        refine lv_lxor hx hb d_Se_goBack_43 ?_
        refine lv_land hx hb d_Se_goBack_44 ?_
        refine va_put (D := (dC, dI)) (ci := 8) (v := .long (sn2 &&& ((ssa2 i) ^^^ (-1)))) (ty := .long) (C := "NetUnfolder$Search") (T := T_Se) (N := 8) hx hb ht in_Se ty_Se ok_Se nm_Se hown hK hP hD hS 0 rfl rfl 2 (by decide) (ht _ wd_1_234) (fun _ h9 => h9) rfl (by decide +kernel) rfl rfl (Nat.le_of_ble_eq_true rfl) d_Se_goBack_45 (fun H5 locs hPn hDn hSn => ?_)
        replace hP : va_P (dC, dI) clA [(s0, .inr (8, [.ref k0, .long (sy2 &&& ((ssa2 i) ^^^ (-1))), .long (sn2 &&& ((ssa2 i) ^^^ (-1))), .int (nI slv), .ref s1, .ref s2, .int (nI sts2), .ref s3])), (s1, .inl (cL, 39, .inr (.inl ssa2)))] H5 := hPn
        replace hD : va_D A [(s0, .inr (8, [.ref k0, .long (sy2 &&& ((ssa2 i) ^^^ (-1))), .long (sn2 &&& ((ssa2 i) ^^^ (-1))), .int (nI slv), .ref s1, .ref s2, .int (nI sts2), .ref s3])), (s1, .inl (cL, 39, .inr (.inl ssa2)))] := hDn
        replace hS := hSn
        clear hPn hDn hSn
        refine lv_aload_n hx hb d_Se_goBack_48 rfl (lv_at hl 0 rfl) ?_
        refine lv_dup hx hb d_Se_goBack_49 rfl ?_
        refine va_get (D := (dC, dI)) (ci := 8) (v := .int (nI sts2)) (C := "NetUnfolder$Search") (T := T_Se) (N := 8) hx hb ht in_Se hown hK hP 0 rfl rfl 6 (by decide) (ht _ wd_1_238) (fun _ h9 => h9) rfl d_Se_goBack_50 ?_
        refine lv_aload_n hx hb d_Se_goBack_53 rfl (lv_at hl 0 rfl) ?_
        refine va_get (D := (dC, dI)) (ci := 8) (v := .ref s1) (C := "NetUnfolder$Search") (T := T_Se) (N := 8) hx hb ht in_Se hown hK hP 0 rfl rfl 4 (by decide) (ht _ wd_1_236) (fun _ h9 => h9) rfl d_Se_goBack_54 ?_
        refine lv_iload_n hx hb d_Se_goBack_57 rfl (lv_at hl 2 rfl) ?_
        refine na_lald (k := i) hx hb hK hP 1 1 rfl rfl (by omega) (by decide) d_Se_goBack_58 ?_
        have hPc : va_P (dC, dI) clA [] _ := pu_P (H := H5)
        have hDc : va_D (fun _ => True) [] := pu_D
        have hFc := pu_free hS hA
        refine va_calli (va_runS (As := [.long (ssa2 i)]) (rest := [.int (nI sts2), .ref s0]) ⟨hx, hb, hml, hown, ht⟩ (c_Lo_bitCount l dC dI cI cL cZ _ (ssa2 i) ) (va_cwS 1 ht (good_S wd_3_170 wd_2_227 wd_1_18 wd_2_228) rfl rfl rfl (by decide +kernel) ⟨Nat.le_of_ble_eq_true rfl, Nat.le_of_ble_eq_true rfl⟩) ⟨fun a U g mk q => by obtain ⟨q0, q1, qP, qK, qD, qN⟩ := q; exact ⟨q0, q1, qP, va_K.moved (u := U) (U := U.calling g mk a) (Vm.Alike.refl U.vm) qK, qD, NwA.same (u := U) rfl qN⟩, fun U hU hW => ⟨rfl, by rw [hU], by rw [hU]; exact hPc, va_K.moved hW.alike hK, hDc.weaken (fun _ _ _ _ => trivial), NwA.warm hW hN⟩⟩ rfl rfl hl.1 rfl (lv_room (Nat.le_of_ble_eq_true rfl)) d_Se_goBack_59 ⟨Nat.le_of_ble_eq_true rfl, Nat.le_of_ble_eq_true rfl⟩) hS (fun q _ h => hFc q h) hFc (fun r8 u9 t9 H6 locs ht9 hvm hw7 hB hz1 hk1 hSn => ?_)
        replace hP : va_P (dC, dI) clA [(s0, .inr (8, [.ref k0, .long (sy2 &&& ((ssa2 i) ^^^ (-1))), .long (sn2 &&& ((ssa2 i) ^^^ (-1))), .int (nI slv), .ref s1, .ref s2, .int (nI sts2), .ref s3])), (s1, .inl (cL, 39, .inr (.inl ssa2)))] H6 := pu_keep hP hk1
        replace hS := hSn
        clear hSn hPc hDc hFc hk1 hz1 ht9 hvm hB
        refine W.cs (cells' := 0) (slots' := 0) rfl rfl ?_
        subst hw7
        refine lv_isub hx hb d_Se_goBack_62 ?_
        refine ci_i (y := nI (sts2 - (pcount (ssa2 i)))) (cv_sub (a := sts2) (b := pcount (ssa2 i)) (by omega)) ?_
        refine va_put (D := (dC, dI)) (ci := 8) (v := .int (nI (sts2 - (pcount (ssa2 i))))) (ty := .int) (C := "NetUnfolder$Search") (T := T_Se) (N := 8) hx hb ht in_Se ty_Se ok_Se nm_Se hown hK hP hD hS 0 rfl rfl 6 (by decide) (ht _ wd_1_238) (fun _ h9 => h9) rfl (by decide +kernel) rfl rfl (Nat.le_of_ble_eq_true rfl) d_Se_goBack_63 (fun H9 locs hPn hDn hSn => ?_)
        replace hP : va_P (dC, dI) clA [(s0, .inr (8, [.ref k0, .long (sy2 &&& ((ssa2 i) ^^^ (-1))), .long (sn2 &&& ((ssa2 i) ^^^ (-1))), .int (nI slv), .ref s1, .ref s2, .int (nI (sts2 - (pcount (ssa2 i)))), .ref s3])), (s1, .inl (cL, 39, .inr (.inl ssa2)))] H9 := hPn
        replace hD : va_D A [(s0, .inr (8, [.ref k0, .long (sy2 &&& ((ssa2 i) ^^^ (-1))), .long (sn2 &&& ((ssa2 i) ^^^ (-1))), .int (nI slv), .ref s1, .ref s2, .int (nI (sts2 - (pcount (ssa2 i)))), .ref s3])), (s1, .inl (cL, 39, .inr (.inl ssa2)))] := hDn
        replace hS := hSn
        clear hPn hDn hSn
        refine lv_aload_n hx hb d_Se_goBack_66 rfl (lv_at hl 0 rfl) ?_
        refine va_get (D := (dC, dI)) (ci := 8) (v := .ref s1) (C := "NetUnfolder$Search") (T := T_Se) (N := 8) hx hb ht in_Se hown hK hP 0 rfl rfl 4 (by decide) (ht _ wd_1_236) (fun _ h9 => h9) rfl d_Se_goBack_67 ?_
        refine lv_iload_n hx hb d_Se_goBack_70 rfl (lv_at hl 2 rfl) ?_
        refine lv_lconst (v := 0) hx hb d_Se_goBack_71 (by decide) ?_
        refine na_last (k := i) hx hb hK hP hD hS 1 1 rfl rfl (by omega) (by decide) d_Se_goBack_72 (fun H10 locs hPn hDn hSn => ?_)
        replace hP : va_P (dC, dI) clA [(s0, .inr (8, [.ref k0, .long (sy2 &&& ((ssa2 i) ^^^ (-1))), .long (sn2 &&& ((ssa2 i) ^^^ (-1))), .int (nI slv), .ref s1, .ref s2, .int (nI (sts2 - (pcount (ssa2 i)))), .ref s3])), (s1, .inl (cL, 39, .inr (.inl (vp_updL ssa2 i 0))))] H10 := hPn
        replace hD : va_D A [(s0, .inr (8, [.ref k0, .long (sy2 &&& ((ssa2 i) ^^^ (-1))), .long (sn2 &&& ((ssa2 i) ^^^ (-1))), .int (nI slv), .ref s1, .ref s2, .int (nI (sts2 - (pcount (ssa2 i)))), .ref s3])), (s1, .inl (cL, 39, .inr (.inl (vp_updL ssa2 i 0))))] := hDn
        replace hS := hSn
        clear hPn hDn hSn
        refine lv_iinc (k := 2) (v := nI (i - 1)) (lv' := [(2, .int (nI (i - 1))), (0, .ref s0), (1, .int (nI tg))]) hx hb d_Se_goBack_73 hl rfl (cv_dec (by omega)) (by decide) rfl (fun ls hln => ?_)
        replace hl : lv_has ls 3 [(2, .int (nI (i - 1))), (0, .ref s0), (1, .int (nI tg))] := hln
        clear hln
        refine lv_goto (tgt := 5) hx hb d_Se_goBack_76 (by decide) ?_
        exact hloop1_ih (i - 1) (sy2 &&& ((ssa2 i) ^^^ (-1))) (sn2 &&& ((ssa2 i) ^^^ (-1))) (sts2 - (pcount (ssa2 i))) (vp_updL ssa2 i 0) (by first | assumption | omega | trivial | exact AllLt.zero | exact AllN.zero | exact AllM.zero | exact Or.inl rfl | exact Or.inr rfl) (by first | assumption | omega | trivial | exact AllLt.zero | exact AllN.zero | exact AllM.zero | exact Or.inl rfl | exact Or.inr rfl) (by obtain ⟨k, rfl⟩ : ∃ k, i = k + 1 := ⟨i - 1, by omega⟩; exact (SeI.down hsi2).1) _ _ ls (lv_sub hl [1, 2, 0] rfl) (hP.sub [0, 1] rfl) (hD.sub [0, 1] (by decide) rfl) hS (by omega)
  exact hloop1 (slv + 1) slv sy sn sts ssa (by first | assumption | omega | trivial | exact AllLt.zero | exact AllN.zero | exact AllM.zero | exact Or.inl rfl | exact Or.inr rfl) (by first | assumption | omega | trivial | exact AllLt.zero | exact AllN.zero | exact AllM.zero | exact Or.inl rfl | exact Or.inr rfl) hsi _ _ ls (lv_sub hl [1, 2, 0] rfl) hP hD hS (Nat.lt_succ_self _)
