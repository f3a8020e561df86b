set_option maxHeartbeats 4000000 in
set_option maxRecDepth 100000 in
theorem c_Se_forgetIdle (l : Launch) (dC : Nat → ClassId) (dI : Nat → Nat → Nat) (cI cL cZ : ClassId) (sz : Nat) (s0 : Nat) (k0 : Nat) (s1 : Nat) (s2 : Nat) (s3 : Nat) (sy : Int64) (sn : Int64) (slv : Nat) (sts : Nat) (stl : Nat → Int32) (srs : Nat → Int32) (k1 : Nat) (k2 : Nat) (kz : Nat) (kg : Nat) (ky : Nat → Int64) (kn : Nat → Int64) (hts : sts ≤ 38) (hstl : AllLt stl 38 38) (hsrs : AllN srs 38 815) (hgz : kg ≤ kz) (hkz : kz ≤ 815) (hkg : kg ≤ 751) (hky : AllM ky 815) (hkn : AllM kn 815) : Met l y_Se_forgetIdle (Cond.code y_Se_forgetIdle prog_7_method_11_code 4 none :: wsA) { frames := 1, cells := 0, slots := 0, locals := 22 } (va_Pc [.ref s0] (fun U => U.heap.size = sz ∧ va_P (dC, dI) clA [(s0, .inr (8, [.ref k0, .long sy, .long sn, .int (nI slv), .ref s1, .ref s2, .int (nI sts), .ref s3])), (s2, .inl (cI, 38, .inl stl)), (s3, .inl (cI, 38, .inl srs)), (k0, .inr (7, [.ref k1, .ref k2, .int (nI kz), .int (nI kg)])), (k1, .inl (cL, 815, .inr (.inl ky))), (k2, .inl (cL, 815, .inr (.inl kn)))] U.heap ∧ va_K (dC, dI) clA [(cI, .int), (cL, .long), (cZ, .boolean)] U ∧ va_D (fun _ => True) [(s0, .inr (8, [.ref k0, .long sy, .long sn, .int (nI slv), .ref s1, .ref s2, .int (nI sts), .ref s3])), (s2, .inl (cI, 38, .inl stl)), (s3, .inl (cI, 38, .inl srs)), (k0, .inr (7, [.ref k1, .ref k2, .int (nI kz), .int (nI kg)])), (k1, .inl (cL, 815, .inr (.inl ky))), (k2, .inl (cL, 815, .inr (.inl kn)))] ∧ NwA U)) (va_Qv (fun _ : Unit => True) (fun _ t => ∃ (srs1 : Nat → Int32), ∃ (kz1 : Nat), ∃ (ky1 : Nat → Int64), ∃ (kn1 : Nat → Int64), (kg ≤ kz1) ∧ (kz1 ≤ 815) ∧ (AllM ky1 815) ∧ (AllM kn1 815) ∧ (AllN srs1 38 815) ∧ va_P (dC, dI) clA [(s0, .inr (8, [.ref k0, .long sy, .long sn, .int (nI slv), .ref s1, .ref s2, .int (nI sts), .ref s3])), (s2, .inl (cI, 38, .inl stl)), (s3, .inl (cI, 38, .inl srs1)), (k0, .inr (7, [.ref k1, .ref k2, .int (nI kz1), .int (nI kg)])), (k1, .inl (cL, 815, .inr (.inl ky1))), (k2, .inl (cL, 815, .inr (.inl kn1)))] t.heap ∧ va_D (va_A [(s0, .inr (8, [.ref k0, .long sy, .long sn, .int (nI slv), .ref s1, .ref s2, .int (nI sts), .ref s3])), (s2, .inl (cI, 38, .inl stl)), (s3, .inl (cI, 38, .inl srs)), (k0, .inr (7, [.ref k1, .ref k2, .int (nI kz), .int (nI kg)])), (k1, .inl (cL, 815, .inr (.inl ky))), (k2, .inl (cL, 815, .inr (.inl kn)))] sz) [(s0, .inr (8, [.ref k0, .long sy, .long sn, .int (nI slv), .ref s1, .ref s2, .int (nI sts), .ref s3])), (s2, .inl (cI, 38, .inl stl)), (s3, .inl (cI, 38, .inl srs1)), (k0, .inr (7, [.ref k1, .ref k2, .int (nI kz1), .int (nI kg)])), (k1, .inl (cL, 815, .inr (.inl ky1))), (k2, .inl (cL, 815, .inr (.inl kn1)))]) (va_A [(s0, .inr (8, [.ref k0, .long sy, .long sn, .int (nI slv), .ref s1, .ref s2, .int (nI sts), .ref s3])), (s2, .inl (cI, 38, .inl stl)), (s3, .inl (cI, 38, .inl srs)), (k0, .inr (7, [.ref k1, .ref k2, .int (nI kz), .int (nI kg)])), (k1, .inl (cL, 815, .inr (.inl ky))), (k2, .inl (cL, 815, .inr (.inl kn)))] sz)) 0 0 (va_A [(s0, .inr (8, [.ref k0, .long sy, .long sn, .int (nI slv), .ref s1, .ref s2, .int (nI sts), .ref s3])), (s2, .inl (cI, 38, .inl stl)), (s3, .inl (cI, 38, .inl srs)), (k0, .inr (7, [.ref k1, .ref k2, .int (nI kz), .int (nI kg)])), (k1, .inl (cL, 815, .inr (.inl ky))), (k2, .inl (cL, 815, .inr (.inl kn)))] sz) := by
  refine Met.ofW (cc := prog_7_method_11_code) (maxL := 4) (ret := none) (by decide) rfl ?_
  intro p e s m args below meth c s₁ B hml hv
  obtain ⟨rfl, hsz, hP, hK, hD0, hN⟩ := hv
  have hx := B.exec
  have hb := B.bytes
  have hr := B.returns
  have ht : ∀ w ∈ wsA, w.before _ s = true := fun w h => atoms_spec (ws := (Cond.code y_Se_forgetIdle prog_7_method_11_code 4 none :: wsA)) B.pre w (List.mem_cons_of_mem _ h)
  have hown : s.vm.findClass "NetUnfolder$Search" = some m.cls := findClass_of_methodNamed B.named
  have hlocks := B.notSynchronized
  subst hsz
  have hD := hD0.self (sz := s.heap.size)
  generalize hAe : va_A [(s0, .inr (8, [.ref k0, .long sy, .long sn, .int (nI slv), .ref s1, .ref s2, .int (nI sts), .ref s3])), (s2, .inl (cI, 38, .inl stl)), (s3, .inl (cI, 38, .inl srs)), (k0, .inr (7, [.ref k1, .ref k2, .int (nI kz), .int (nI kg)])), (k1, .inl (cL, 815, .inr (.inl ky))), (k2, .inl (cL, 815, .inr (.inl kn)))] s.heap.size = A at hD ⊢
  have hA : ∀ q : Nat, s.heap.size ≤ q → A q := fun q h => by rw [← hAe]; exact Or.inr h
  have hS : va_S A s.heap s.heap [] := va_S.rf
  have hl := lv_entry ([.ref s0]) (n := 4) (Nat.le_of_ble_eq_true rfl)
  rw [lg_entry_eq]
  generalize (lg_sl ([.ref s0]) ++ List.replicate (4 - (lg_sl ([.ref s0])).length) Slot.unset).toArray = ls at hl ⊢
  replace hl : lv_has ls 4 [(0, .ref s0)] := hl
  refine W_Q (fun Q hQ => ?_)
  refine lv_aload_n hx hb d_Se_forgetIdle_0 rfl (lv_at hl 0 rfl) ?_
  refine va_get (D := (dC, dI)) (ci := 8) (v := .ref k0) (C := "NetUnfolder$Search") (T := T_Se) (N := 8) hx hb ht in_Se hown hK hP 0 rfl rfl 0 (by decide) (ht _ wd_1_232) (fun _ h9 => h9) rfl d_Se_forgetIdle_1 ?_
  refine va_get (D := (dC, dI)) (ci := 7) (v := .int (nI kg)) (C := "NetUnfolder$Clauses") (T := T_Cs) (N := 4) hx hb ht in_Cs hown hK hP 3 rfl rfl 3 (by decide) (ht _ wd_1_216) (fun _ h9 => h9) rfl d_Se_forgetIdle_4 ?_
  refine lv_istore_n (lv' := [(1, .int (nI kg)), (0, .ref s0)]) hx hb d_Se_forgetIdle_7 rfl hl (by decide) rfl (fun ls hln => ?_)
  replace hl : lv_has ls 4 [(1, .int (nI kg)), (0, .ref s0)] := hln
  clear hln
  refine lv_aload_n hx hb d_Se_forgetIdle_8 rfl (lv_at hl 1 rfl) ?_
  refine va_get (D := (dC, dI)) (ci := 8) (v := .ref k0) (C := "NetUnfolder$Search") (T := T_Se) (N := 8) hx hb ht in_Se hown hK hP 0 rfl rfl 0 (by decide) (ht _ wd_1_232) (fun _ h9 => h9) rfl d_Se_forgetIdle_9 ?_
  refine va_get (D := (dC, dI)) (ci := 7) (v := .int (nI kg)) (C := "NetUnfolder$Clauses") (T := T_Cs) (N := 4) hx hb ht in_Cs hown hK hP 3 rfl rfl 3 (by decide) (ht _ wd_1_216) (fun _ h9 => h9) rfl d_Se_forgetIdle_12 ?_
  refine lv_istore_n (lv' := [(2, .int (nI kg)), (1, .int (nI kg)), (0, .ref s0)]) hx hb d_Se_forgetIdle_15 rfl hl (by decide) rfl (fun ls hln => ?_)
  replace hl : lv_has ls 4 [(2, .int (nI kg)), (1, .int (nI kg)), (0, .ref s0)] := hln
  clear hln
  have hloop1 : ∀ (n16 : Nat) (i : Nat) (kp : Nat) (ky2 : Nat → Int64) (kn2 : Nat → Int64) (srs2 : Nat → Int32) (hk1 : kg ≤ kp) (hk2 : kp ≤ i) (hk3 : i ≤ kz) (hky2 : AllM ky2 815) (hkn2 : AllM kn2 815) (hsrs2 : AllN srs2 38 815) (H : Heap) (locs : List Loc) (ls : Array Slot) (hl : lv_has ls 4 [(0, .ref s0), (1, .int (nI kp)), (2, .int (nI i))]) (hP : va_P (dC, dI) clA [(s0, .inr (8, [.ref k0, .long sy, .long sn, .int (nI slv), .ref s1, .ref s2, .int (nI sts), .ref s3])), (s2, .inl (cI, 38, .inl stl)), (s3, .inl (cI, 38, .inl srs2)), (k0, .inr (7, [.ref k1, .ref k2, .int (nI kz), .int (nI kg)])), (k1, .inl (cL, 815, .inr (.inl ky2))), (k2, .inl (cL, 815, .inr (.inl kn2)))] H) (hD : va_D A [(s0, .inr (8, [.ref k0, .long sy, .long sn, .int (nI slv), .ref s1, .ref s2, .int (nI sts), .ref s3])), (s2, .inl (cI, 38, .inl stl)), (s3, .inl (cI, 38, .inl srs2)), (k0, .inr (7, [.ref k1, .ref k2, .int (nI kz), .int (nI kg)])), (k1, .inl (cL, 815, .inr (.inl ky2))), (k2, .inl (cL, 815, .inr (.inl kn2)))]) (hS : va_S A s.heap H locs) (hm16 : kz - i < n16), W p l e (headSpec (Cond.code y_Se_forgetIdle prog_7_method_11_code 4 none :: wsA) { frames := 1, cells := 0, slots := 0, locals := 22 }).room s m ([.ref s0] : List Value).toArray below meth c H locs 0 0 Q (F0 m 16 ls []) := by
    clear hl hP hD hS
    intro n16
    induction n16 with
    | zero => intro i kp ky2 kn2 srs2 hk1 hk2 hk3 hky2 hkn2 hsrs2 H locs ls hl hP hD hS hm; exact absurd hm (Nat.not_lt_zero _)
    | succ n16 hloop1_ih =>
      intro i kp ky2 kn2 srs2 hk1 hk2 hk3 hky2 hkn2 hsrs2 H locs ls hl hP hD hS hm16
      refine lv_iload_n hx hb d_Se_forgetIdle_16 rfl (lv_at hl 2 rfl) ?_
      refine lv_aload_n hx hb d_Se_forgetIdle_17 rfl (lv_at hl 0 rfl) ?_
      refine va_get (D := (dC, dI)) (ci := 8) (v := .ref k0) (C := "NetUnfolder$Search") (T := T_Se) (N := 8) hx hb ht in_Se hown hK hP 0 rfl rfl 0 (by decide) (ht _ wd_1_232) (fun _ h9 => h9) rfl d_Se_forgetIdle_18 ?_
      refine va_get (D := (dC, dI)) (ci := 7) (v := .int (nI kz)) (C := "NetUnfolder$Clauses") (T := T_Cs) (N := 4) hx hb ht in_Cs hown hK hP 3 rfl rfl 2 (by decide) (ht _ wd_1_214) (fun _ h9 => h9) rfl d_Se_forgetIdle_21 ?_
      refine lv_icmp_ge (tgt := 63) hx hb d_Se_forgetIdle_24 (by decide) (fun hb2 => ?_) (fun hb2 => ?_)
      · skip
        replace hb2 := cv_le (a := kz) (b := i) (by omega) (by omega) hb2
        refine lv_aload_n hx hb d_Se_forgetIdle_63 rfl (lv_at hl 0 rfl) ?_
        refine va_get (D := (dC, dI)) (ci := 8) (v := .ref k0) (C := "NetUnfolder$Search") (T := T_Se) (N := 8) hx hb ht in_Se hown hK hP 0 rfl rfl 0 (by decide) (ht _ wd_1_232) (fun _ h9 => h9) rfl d_Se_forgetIdle_64 ?_
        refine lv_iload_n hx hb d_Se_forgetIdle_67 rfl (lv_at hl 1 rfl) ?_
        refine va_put (D := (dC, dI)) (ci := 7) (v := .int (nI kp)) (ty := .int) (C := "NetUnfolder$Clauses") (T := T_Cs) (N := 4) hx hb ht in_Cs ty_Cs ok_Cs nm_Cs hown hK hP hD hS 3 rfl rfl 2 (by decide) (ht _ wd_1_214) (fun _ h9 => h9) rfl (by decide +kernel) rfl rfl (Nat.le_of_ble_eq_true rfl) d_Se_forgetIdle_68 (fun H3 locs hPn hDn hSn => ?_)
        replace hP : va_P (dC, dI) clA [(s0, .inr (8, [.ref k0, .long sy, .long sn, .int (nI slv), .ref s1, .ref s2, .int (nI sts), .ref s3])), (s2, .inl (cI, 38, .inl stl)), (s3, .inl (cI, 38, .inl srs2)), (k0, .inr (7, [.ref k1, .ref k2, .int (nI kp), .int (nI kg)])), (k1, .inl (cL, 815, .inr (.inl ky2))), (k2, .inl (cL, 815, .inr (.inl kn2)))] H3 := hPn
        replace hD : va_D A [(s0, .inr (8, [.ref k0, .long sy, .long sn, .int (nI slv), .ref s1, .ref s2, .int (nI sts), .ref s3])), (s2, .inl (cI, 38, .inl stl)), (s3, .inl (cI, 38, .inl srs2)), (k0, .inr (7, [.ref k1, .ref k2, .int (nI kp), .int (nI kg)])), (k1, .inl (cL, 815, .inr (.inl ky2))), (k2, .inl (cL, 815, .inr (.inl kn2)))] := hDn
        replace hS := hSn
        clear hPn hDn hSn
        have hP9 := hP.sub (ws' := [(s0, .inr (8, [.ref k0, .long sy, .long sn, .int (nI slv), .ref s1, .ref s2, .int (nI sts), .ref s3])), (s2, .inl (cI, 38, .inl stl)), (s3, .inl (cI, 38, .inl srs2)), (k0, .inr (7, [.ref k1, .ref k2, .int (nI kp), .int (nI kg)])), (k1, .inl (cL, 815, .inr (.inl ky2))), (k2, .inl (cL, 815, .inr (.inl kn2)))]) [0, 1, 2, 3, 4, 5] rfl
        have hD9 := hD.sub (ws' := [(s0, .inr (8, [.ref k0, .long sy, .long sn, .int (nI slv), .ref s1, .ref s2, .int (nI sts), .ref s3])), (s2, .inl (cI, 38, .inl stl)), (s3, .inl (cI, 38, .inl srs2)), (k0, .inr (7, [.ref k1, .ref k2, .int (nI kp), .int (nI kg)])), (k1, .inl (cL, 815, .inr (.inl ky2))), (k2, .inl (cL, 815, .inr (.inl kn2)))]) [0, 1, 2, 3, 4, 5] (by decide) rfl
        subst hQ
        exact W.vret hx hb hr (fun t9 ht9 hW => ⟨⟨(), rfl, trivial, srs2, kp, ky2, kn2, (by first | assumption | omega | trivial | exact AllLt.zero | exact AllN.zero | exact AllM.zero | exact Or.inl rfl | exact Or.inr rfl), (by first | assumption | omega | trivial | exact AllLt.zero | exact AllN.zero | exact AllM.zero | exact Or.inl rfl | exact Or.inr rfl), (by first | assumption | omega | trivial | exact AllLt.zero | exact AllN.zero | exact AllM.zero | exact Or.inl rfl | exact Or.inr rfl), (by first | assumption | omega | trivial | exact AllLt.zero | exact AllN.zero | exact AllM.zero | exact Or.inl rfl | exact Or.inr rfl), (by first | assumption | omega | trivial | exact AllLt.zero | exact AllN.zero | exact AllM.zero | exact Or.inl rfl | exact Or.inr rfl), by rw [ht9]; exact hP9, hD9⟩, hS.F ht9⟩) hS.2.2 d_Se_forgetIdle_71
      · skip
        replace hb2 := cv_nle (a := kz) (b := i) (by omega) (by omega) hb2
        refine lv_aload_n hx hb d_Se_forgetIdle_27 rfl (lv_at hl 0 rfl) ?_
        refine lv_iload_n hx hb d_Se_forgetIdle_28 rfl (lv_at hl 2 rfl) ?_
        have hPc := hP.sub (ws' := [(s0, .inr (8, [.ref k0, .long sy, .long sn, .int (nI slv), .ref s1, .ref s2, .int (nI sts), .ref s3])), (s2, .inl (cI, 38, .inl stl)), (s3, .inl (cI, 38, .inl srs2))]) [0, 1, 2] rfl
        have hDc := hD.sub (ws' := [(s0, .inr (8, [.ref k0, .long sy, .long sn, .int (nI slv), .ref s1, .ref s2, .int (nI sts), .ref s3])), (s2, .inl (cI, 38, .inl stl)), (s3, .inl (cI, 38, .inl srs2))]) [0, 1, 2] (by decide) rfl
        have hFc := va_free (wc := [(s0, .inr (8, [.ref k0, .long sy, .long sn, .int (nI slv), .ref s1, .ref s2, .int (nI sts), .ref s3])), (s2, .inl (cI, 38, .inl stl)), (s3, .inl (cI, 38, .inl srs2))]) hD hS hA [0, 1, 2] rfl
        refine va_calli (va_runV (C := "NetUnfolder$Search") (As := [.int (nI i)]) (rest := []) ⟨hx, hb, hml, hown, ht⟩ (c_Se_forcedBy l dC dI cI cL cZ _ s0 k0 s1 s2 s3 sy sn slv sts stl srs2 (nI i) (by first | assumption | omega | trivial | exact AllLt.zero | exact AllN.zero | exact AllM.zero | exact Or.inl rfl | exact Or.inr rfl) (by first | assumption | omega | trivial | exact AllLt.zero | exact AllN.zero | exact AllM.zero | exact Or.inl rfl | exact Or.inr rfl)) (cwV 1 ht (good_V wd_3_187 wd_3_189 ws_Se_forcedBy wd_1_9 wd_3_190) rfl rfl rfl (by decide +kernel) ⟨Nat.le_of_ble_eq_true rfl, Nat.le_of_ble_eq_true rfl⟩) ⟨fun a U g mk q => by obtain ⟨q0, q1, qP, qK, qD, qN⟩ := q; exact ⟨q0, q1, qP, va_K.moved (u := U) (U := U.calling g mk a) (Vm.Alike.refl U.vm) qK, qD, NwA.same (u := U) rfl qN⟩, (va_recv (q0 := 0) (ci := 8) hK hP rfl rfl), fun U hU hW => ⟨rfl, by rw [hU], by rw [hU]; exact hPc, va_K.moved hW.alike hK, hDc.weaken (fun _ _ _ _ => trivial), NwA.warm hW hN⟩⟩ rfl rfl hl.1 rfl (lv_room (Nat.le_of_ble_eq_true rfl)) d_Se_forgetIdle_29 ⟨Nat.le_of_ble_eq_true rfl, Nat.le_of_ble_eq_true rfl⟩) hS (fun q _ h => hFc q h) hFc (fun r6 u9 t9 H4 locs ht9 hvm hw5 hB hz1 hk1 hSn => ?_)
        obtain ⟨hP1, hD1⟩ := hB
        rw [ht9] at hP1
        obtain ⟨hPn, hDn⟩ := va_join (wr := [(k0, .inr (7, [.ref k1, .ref k2, .int (nI kz), .int (nI kg)])), (k1, .inl (cL, 815, .inr (.inl ky2))), (k2, .inl (cL, 815, .inr (.inl kn2)))]) (w1 := [(s0, .inr (8, [.ref k0, .long sy, .long sn, .int (nI slv), .ref s1, .ref s2, .int (nI sts), .ref s3])), (s2, .inl (cI, 38, .inl stl)), (s3, .inl (cI, 38, .inl srs2))]) hP hD [0, 1, 2] [3, 4, 5] rfl rfl (by decide) (by decide) hk1 hFc hP1 hD1
        replace hP : va_P (dC, dI) clA [(k0, .inr (7, [.ref k1, .ref k2, .int (nI kz), .int (nI kg)])), (k1, .inl (cL, 815, .inr (.inl ky2))), (k2, .inl (cL, 815, .inr (.inl kn2))), (s0, .inr (8, [.ref k0, .long sy, .long sn, .int (nI slv), .ref s1, .ref s2, .int (nI sts), .ref s3])), (s2, .inl (cI, 38, .inl stl)), (s3, .inl (cI, 38, .inl srs2))] H4 := hPn
        replace hD : va_D A [(k0, .inr (7, [.ref k1, .ref k2, .int (nI kz), .int (nI kg)])), (k1, .inl (cL, 815, .inr (.inl ky2))), (k2, .inl (cL, 815, .inr (.inl kn2))), (s0, .inr (8, [.ref k0, .long sy, .long sn, .int (nI slv), .ref s1, .ref s2, .int (nI sts), .ref s3])), (s2, .inl (cI, 38, .inl stl)), (s3, .inl (cI, 38, .inl srs2))] := hDn
        replace hS := hSn
        clear hPn hDn hSn
        clear hPc hDc hFc hP1 hD1 hk1 hz1 ht9 hvm
        refine W.cs (cells' := 0) (slots' := 0) rfl rfl ?_
        have hr7 := hw5
        refine lv_istore_n (lv' := [(3, .int r6), (0, .ref s0), (1, .int (nI kp)), (2, .int (nI i))]) hx hb d_Se_forgetIdle_32 rfl hl (by decide) rfl (fun ls hln => ?_)
        replace hl : lv_has ls 4 [(3, .int r6), (0, .ref s0), (1, .int (nI kp)), (2, .int (nI i))] := hln
        clear hln
        refine lv_iload_n hx hb d_Se_forgetIdle_33 rfl (lv_at hl 0 rfl) ?_
        refine lv_iconst (v := (-1)) hx hb d_Se_forgetIdle_34 (by decide) ?_
        refine lv_icmp_eq (tgt := 57) hx hb d_Se_forgetIdle_35 (by decide) (fun hb8 => ?_) (fun hb8 => ?_)
        · skip
          refine lv_iinc (k := 3) (v := nI (i + 1)) (lv' := [(2, .int (nI (i + 1))), (3, .int r6), (0, .ref s0), (1, .int (nI kp))]) hx hb d_Se_forgetIdle_57 hl rfl (nI_1 _) (by decide) rfl (fun ls hln => ?_)
          replace hl : lv_has ls 4 [(2, .int (nI (i + 1))), (3, .int r6), (0, .ref s0), (1, .int (nI kp))] := hln
          clear hln
          refine lv_goto (tgt := 16) hx hb d_Se_forgetIdle_60 (by decide) ?_
          exact hloop1_ih (i + 1) kp ky2 kn2 srs2 (by first | assumption | omega | trivial | exact AllLt.zero | exact AllN.zero | exact AllM.zero | exact Or.inl rfl | exact Or.inr rfl) (by first | assumption | omega | trivial | exact AllLt.zero | exact AllN.zero | exact AllM.zero | exact Or.inl rfl | exact Or.inr rfl) (by first | assumption | omega | trivial | exact AllLt.zero | exact AllN.zero | exact AllM.zero | exact Or.inl rfl | exact Or.inr rfl) (by first | assumption | omega | trivial | exact AllLt.zero | exact AllN.zero | exact AllM.zero | exact Or.inl rfl | exact Or.inr rfl) (by first | assumption | omega | trivial | exact AllLt.zero | exact AllN.zero | exact AllM.zero | exact Or.inl rfl | exact Or.inr rfl) (by first | assumption | exact AllN.put hsrs2 (Or.inr ⟨kp, by omega, rfl⟩)) _ _ ls (lv_sub hl [2, 3, 0] rfl) (hP.sub [3, 4, 5, 0, 1, 2] rfl) (hD.sub [3, 4, 5, 0, 1, 2] (by decide) rfl) hS (by omega)
        · skip
          refine lv_aload_n hx hb d_Se_forgetIdle_38 rfl (lv_at hl 1 rfl) ?_
          refine va_get (D := (dC, dI)) (ci := 8) (v := .ref k0) (C := "NetUnfolder$Search") (T := T_Se) (N := 8) hx hb ht in_Se hown hK hP 3 rfl rfl 0 (by decide) (ht _ wd_1_232) (fun _ h9 => h9) rfl d_Se_forgetIdle_39 ?_
          refine lv_iload_n hx hb d_Se_forgetIdle_42 rfl (lv_at hl 3 rfl) ?_
          refine lv_iload_n hx hb d_Se_forgetIdle_43 rfl (lv_at hl 2 rfl) ?_
          have hPc := hP.sub (ws' := [(k0, .inr (7, [.ref k1, .ref k2, .int (nI kz), .int (nI kg)])), (k1, .inl (cL, 815, .inr (.inl ky2))), (k2, .inl (cL, 815, .inr (.inl kn2)))]) [0, 1, 2] rfl
          have hDc := hD.sub (ws' := [(k0, .inr (7, [.ref k1, .ref k2, .int (nI kz), .int (nI kg)])), (k1, .inl (cL, 815, .inr (.inl ky2))), (k2, .inl (cL, 815, .inr (.inl kn2)))]) [0, 1, 2] (by decide) rfl
          have hFc := va_free (wc := [(k0, .inr (7, [.ref k1, .ref k2, .int (nI kz), .int (nI kg)])), (k1, .inl (cL, 815, .inr (.inl ky2))), (k2, .inl (cL, 815, .inr (.inl kn2)))]) hD hS hA [0, 1, 2] rfl
          refine va_callv (va_runV (C := "NetUnfolder$Clauses") (As := [.int (nI i), .int (nI kp)]) (rest := []) ⟨hx, hb, hml, hown, ht⟩ (c_Cs_move l dC dI cI cL cZ _ k0 k1 k2 kz kg ky2 kn2 i kp (by first | assumption | omega | trivial | exact AllLt.zero | exact AllN.zero | exact AllM.zero | exact Or.inl rfl | exact Or.inr rfl) (by first | assumption | omega | trivial | exact AllLt.zero | exact AllN.zero | exact AllM.zero | exact Or.inl rfl | exact Or.inr rfl) (by first | assumption | omega | trivial | exact AllLt.zero | exact AllN.zero | exact AllM.zero | exact Or.inl rfl | exact Or.inr rfl) (by first | assumption | omega | trivial | exact AllLt.zero | exact AllN.zero | exact AllM.zero | exact Or.inl rfl | exact Or.inr rfl) (by first | assumption | omega | trivial | exact AllLt.zero | exact AllN.zero | exact AllM.zero | exact Or.inl rfl | exact Or.inr rfl) (by first | assumption | omega | trivial | exact AllLt.zero | exact AllN.zero | exact AllM.zero | exact Or.inl rfl | exact Or.inr rfl) (by first | assumption | omega | trivial | exact AllLt.zero | exact AllN.zero | exact AllM.zero | exact Or.inl rfl | exact Or.inr rfl)) (cwV 2 ht (good_V wd_3_191 wd_3_192 wd_3_193 wd_1_8 wd_3_194) rfl rfl rfl (by decide +kernel) ⟨Nat.le_of_ble_eq_true rfl, Nat.le_of_ble_eq_true rfl⟩) ⟨fun a U g mk q => by obtain ⟨q0, q1, qP, qK, qD, qN⟩ := q; exact ⟨q0, q1, qP, va_K.moved (u := U) (U := U.calling g mk a) (Vm.Alike.refl U.vm) qK, qD, NwA.same (u := U) rfl qN⟩, (va_recv (q0 := 0) (ci := 7) hK hP rfl rfl), fun U hU hW => ⟨rfl, by rw [hU], by rw [hU]; exact hPc, va_K.moved hW.alike hK, hDc.weaken (fun _ _ _ _ => trivial), NwA.warm hW hN⟩⟩ rfl rfl hl.1 rfl (lv_room (Nat.le_of_ble_eq_true rfl)) d_Se_forgetIdle_44 ⟨Nat.le_of_ble_eq_true rfl, Nat.le_of_ble_eq_true rfl⟩) hS (fun q _ h => hFc q h) hFc (fun u9 t9 H9 locs ht9 hvm hw10 hB hz1 hk1 hSn => ?_)
          obtain ⟨ky112, kn113, hf14, hf15, hP1, hD1⟩ := hB
          rw [ht9] at hP1
          obtain ⟨hPn, hDn⟩ := va_join (wr := [(s0, .inr (8, [.ref k0, .long sy, .long sn, .int (nI slv), .ref s1, .ref s2, .int (nI sts), .ref s3])), (s2, .inl (cI, 38, .inl stl)), (s3, .inl (cI, 38, .inl srs2))]) (w1 := [(k0, .inr (7, [.ref k1, .ref k2, .int (nI kz), .int (nI kg)])), (k1, .inl (cL, 815, .inr (.inl ky112))), (k2, .inl (cL, 815, .inr (.inl kn113)))]) hP hD [0, 1, 2] [3, 4, 5] rfl rfl (by decide) (by decide) hk1 hFc hP1 hD1
          replace hP : va_P (dC, dI) clA [(s0, .inr (8, [.ref k0, .long sy, .long sn, .int (nI slv), .ref s1, .ref s2, .int (nI sts), .ref s3])), (s2, .inl (cI, 38, .inl stl)), (s3, .inl (cI, 38, .inl srs2)), (k0, .inr (7, [.ref k1, .ref k2, .int (nI kz), .int (nI kg)])), (k1, .inl (cL, 815, .inr (.inl ky112))), (k2, .inl (cL, 815, .inr (.inl kn113)))] H9 := hPn
          replace hD : va_D A [(s0, .inr (8, [.ref k0, .long sy, .long sn, .int (nI slv), .ref s1, .ref s2, .int (nI sts), .ref s3])), (s2, .inl (cI, 38, .inl stl)), (s3, .inl (cI, 38, .inl srs2)), (k0, .inr (7, [.ref k1, .ref k2, .int (nI kz), .int (nI kg)])), (k1, .inl (cL, 815, .inr (.inl ky112))), (k2, .inl (cL, 815, .inr (.inl kn113)))] := hDn
          replace hS := hSn
          clear hPn hDn hSn
          clear hPc hDc hFc hP1 hD1 hk1 hz1 ht9 hvm
          refine W.cs (cells' := 0) (slots' := 0) rfl rfl ?_
          refine lv_aload_n hx hb d_Se_forgetIdle_47 rfl (lv_at hl 1 rfl) ?_
          refine va_get (D := (dC, dI)) (ci := 8) (v := .ref s3) (C := "NetUnfolder$Search") (T := T_Se) (N := 8) hx hb ht in_Se hown hK hP 0 rfl rfl 7 (by decide) (ht _ wd_1_239) (fun _ h9 => h9) rfl d_Se_forgetIdle_48 ?_
          refine lv_iload_n hx hb d_Se_forgetIdle_51 rfl (lv_at hl 0 rfl) ?_
          obtain ⟨q16, hq17, eq18⟩ := hr7.resolve_left hb8
          refine ci_i (y := nI q16) eq18 ?_
          refine lv_iload_n hx hb d_Se_forgetIdle_52 rfl (lv_at hl 2 rfl) ?_
          refine na_iast (k := q16) hx hb hK hP hD hS 2 0 rfl rfl (by omega) (by decide) d_Se_forgetIdle_53 (fun H19 locs hPn hDn hSn => ?_)
          replace hP : va_P (dC, dI) clA [(s0, .inr (8, [.ref k0, .long sy, .long sn, .int (nI slv), .ref s1, .ref s2, .int (nI sts), .ref s3])), (s2, .inl (cI, 38, .inl stl)), (s3, .inl (cI, 38, .inl (upd srs2 q16 (nI kp)))), (k0, .inr (7, [.ref k1, .ref k2, .int (nI kz), .int (nI kg)])), (k1, .inl (cL, 815, .inr (.inl ky112))), (k2, .inl (cL, 815, .inr (.inl kn113)))] H19 := hPn
          replace hD : va_D A [(s0, .inr (8, [.ref k0, .long sy, .long sn, .int (nI slv), .ref s1, .ref s2, .int (nI sts), .ref s3])), (s2, .inl (cI, 38, .inl stl)), (s3, .inl (cI, 38, .inl (upd srs2 q16 (nI kp)))), (k0, .inr (7, [.ref k1, .ref k2, .int (nI kz), .int (nI kg)])), (k1, .inl (cL, 815, .inr (.inl ky112))), (k2, .inl (cL, 815, .inr (.inl kn113)))] := hDn
          replace hS := hSn
          clear hPn hDn hSn
          refine lv_iinc (k := 2) (v := nI (kp + 1)) (lv' := [(1, .int (nI (kp + 1))), (3, .int r6), (0, .ref s0), (2, .int (nI i))]) hx hb d_Se_forgetIdle_54 hl rfl (nI_1 _) (by decide) rfl (fun ls hln => ?_)
          replace hl : lv_has ls 4 [(1, .int (nI (kp + 1))), (3, .int r6), (0, .ref s0), (2, .int (nI i))] := hln
          clear hln
          refine lv_iinc (k := 3) (v := nI (i + 1)) (lv' := [(2, .int (nI (i + 1))), (1, .int (nI (kp + 1))), (3, .int r6), (0, .ref s0)]) hx hb d_Se_forgetIdle_57 hl rfl (nI_1 _) (by decide) rfl (fun ls hln => ?_)
          replace hl : lv_has ls 4 [(2, .int (nI (i + 1))), (1, .int (nI (kp + 1))), (3, .int r6), (0, .ref s0)] := hln
          clear hln
          refine lv_goto (tgt := 16) hx hb d_Se_forgetIdle_60 (by decide) ?_
          exact hloop1_ih (i + 1) (kp + 1) ky112 kn113 (upd srs2 q16 (nI kp)) (by first | assumption | omega | trivial | exact AllLt.zero | exact AllN.zero | exact AllM.zero | exact Or.inl rfl | exact Or.inr rfl) (by first | assumption | omega | trivial | exact AllLt.zero | exact AllN.zero | exact AllM.zero | exact Or.inl rfl | exact Or.inr rfl) (by first | assumption | omega | trivial | exact AllLt.zero | exact AllN.zero | exact AllM.zero | exact Or.inl rfl | exact Or.inr rfl) (by first | assumption | omega | trivial | exact AllLt.zero | exact AllN.zero | exact AllM.zero | exact Or.inl rfl | exact Or.inr rfl) (by first | assumption | omega | trivial | exact AllLt.zero | exact AllN.zero | exact AllM.zero | exact Or.inl rfl | exact Or.inr rfl) (by first | assumption | exact AllN.put hsrs2 (Or.inr ⟨kp, by omega, rfl⟩)) _ _ ls (lv_sub hl [3, 1, 0] rfl) (hP.sub [0, 1, 2, 3, 4, 5] rfl) (hD.sub [0, 1, 2, 3, 4, 5] (by decide) rfl) hS (by omega)
  exact hloop1 ((kz - kg) + 1) kg kg ky kn srs (by first | assumption | omega | trivial | exact AllLt.zero | exact AllN.zero | exact AllM.zero | exact Or.inl rfl | exact Or.inr rfl) (by first | assumption | omega | trivial | exact AllLt.zero | exact AllN.zero | exact AllM.zero | exact Or.inl rfl | exact Or.inr rfl) (by first | assumption | omega | trivial | exact AllLt.zero | exact AllN.zero | exact AllM.zero | exact Or.inl rfl | exact Or.inr rfl) (by first | assumption | omega | trivial | exact AllLt.zero | exact AllN.zero | exact AllM.zero | exact Or.inl rfl | exact Or.inr rfl) (by first | assumption | omega | trivial | exact AllLt.zero | exact AllN.zero | exact AllM.zero | exact Or.inl rfl | exact Or.inr rfl) (by first | assumption | exact AllN.put hsrs2 (Or.inr ⟨kp, by omega, rfl⟩)) _ _ ls (lv_sub hl [2, 1, 0] rfl) hP hD hS (Nat.lt_succ_self _)
