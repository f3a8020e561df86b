set_option maxHeartbeats 4000000 in
set_option maxRecDepth 100000 in
theorem c_Se_learnFrom (l : Launch) (dC : Nat → ClassId) (dI : Nat → Nat → Nat) (cI cL cZ : ClassId) (sz : Nat) (s0 : Nat) (k0 : Nat) (s1 : Nat) (s2 : Nat) (s3 : Nat) (sy : Int64) (sn : Int64) (slv : Nat) (sts : Nat) (ssa : Nat → Int64) (stl : Nat → Int32) (srs : Nat → Int32) (k1 : Nat) (k2 : Nat) (kz : Nat) (kg : Nat) (ky : Nat → Int64) (kn : Nat → Int64) (br : Nat) (hsi : SeI sy sn slv sts ssa) (hstl : AllLt stl 38 38) (hsrs : AllN srs 38 815) (hgz : kg ≤ kz) (hkz : kz ≤ 815) (hkg : kg ≤ 751) (hky : AllM ky 815) (hkn : AllM kn 815) (hbr : br < kz) (hl1 : 1 ≤ slv) : Met l y_Se_learnFrom (Cond.code y_Se_learnFrom prog_7_method_8_code 10 none :: wsA) { frames := 2, cells := 0, slots := 0, locals := 45 } (va_Pc [.ref s0, .int (nI br)] (fun U => U.heap.size = sz ∧ va_P (dC, dI) clA [(s0, .inr (8, [.ref k0, .long sy, .long sn, .int (nI slv), .ref s1, .ref s2, .int (nI sts), .ref s3])), (s1, .inl (cL, 39, .inr (.inl ssa))), (s2, .inl (cI, 38, .inl stl)), (s3, .inl (cI, 38, .inl srs)), (k0, .inr (7, [.ref k1, .ref k2, .int (nI kz), .int (nI kg)])), (k1, .inl (cL, 815, .inr (.inl ky))), (k2, .inl (cL, 815, .inr (.inl kn)))] U.heap ∧ va_K (dC, dI) clA [(cI, .int), (cL, .long), (cZ, .boolean)] U ∧ va_D (fun _ => True) [(s0, .inr (8, [.ref k0, .long sy, .long sn, .int (nI slv), .ref s1, .ref s2, .int (nI sts), .ref s3])), (s1, .inl (cL, 39, .inr (.inl ssa))), (s2, .inl (cI, 38, .inl stl)), (s3, .inl (cI, 38, .inl srs)), (k0, .inr (7, [.ref k1, .ref k2, .int (nI kz), .int (nI kg)])), (k1, .inl (cL, 815, .inr (.inl ky))), (k2, .inl (cL, 815, .inr (.inl kn)))] ∧ NwA U)) (va_Qv (fun _ : Unit => True) (fun _ t => ∃ (sy1 : Int64), ∃ (sn1 : Int64), ∃ (slv1 : Nat), ∃ (sts1 : Nat), ∃ (ssa1 : Nat → Int64), ∃ (srs1 : Nat → Int32), ∃ (kz1 : Nat), ∃ (ky1 : Nat → Int64), ∃ (kn1 : Nat → Int64), (SeI sy1 sn1 slv1 sts1 ssa1) ∧ (AllN srs1 38 815) ∧ (kg ≤ kz1) ∧ (kz1 ≤ 815) ∧ (AllM ky1 815) ∧ (AllM kn1 815) ∧ va_P (dC, dI) clA [(s0, .inr (8, [.ref k0, .long sy1, .long sn1, .int (nI slv1), .ref s1, .ref s2, .int (nI sts1), .ref s3])), (s1, .inl (cL, 39, .inr (.inl ssa1))), (s2, .inl (cI, 38, .inl stl)), (s3, .inl (cI, 38, .inl srs1)), (k0, .inr (7, [.ref k1, .ref k2, .int (nI kz1), .int (nI kg)])), (k1, .inl (cL, 815, .inr (.inl ky1))), (k2, .inl (cL, 815, .inr (.inl kn1)))] t.heap ∧ va_D (va_A [(s0, .inr (8, [.ref k0, .long sy, .long sn, .int (nI slv), .ref s1, .ref s2, .int (nI sts), .ref s3])), (s1, .inl (cL, 39, .inr (.inl ssa))), (s2, .inl (cI, 38, .inl stl)), (s3, .inl (cI, 38, .inl srs)), (k0, .inr (7, [.ref k1, .ref k2, .int (nI kz), .int (nI kg)])), (k1, .inl (cL, 815, .inr (.inl ky))), (k2, .inl (cL, 815, .inr (.inl kn)))] sz) [(s0, .inr (8, [.ref k0, .long sy1, .long sn1, .int (nI slv1), .ref s1, .ref s2, .int (nI sts1), .ref s3])), (s1, .inl (cL, 39, .inr (.inl ssa1))), (s2, .inl (cI, 38, .inl stl)), (s3, .inl (cI, 38, .inl srs1)), (k0, .inr (7, [.ref k1, .ref k2, .int (nI kz1), .int (nI kg)])), (k1, .inl (cL, 815, .inr (.inl ky1))), (k2, .inl (cL, 815, .inr (.inl kn1)))]) (va_A [(s0, .inr (8, [.ref k0, .long sy, .long sn, .int (nI slv), .ref s1, .ref s2, .int (nI sts), .ref s3])), (s1, .inl (cL, 39, .inr (.inl ssa))), (s2, .inl (cI, 38, .inl stl)), (s3, .inl (cI, 38, .inl srs)), (k0, .inr (7, [.ref k1, .ref k2, .int (nI kz), .int (nI kg)])), (k1, .inl (cL, 815, .inr (.inl ky))), (k2, .inl (cL, 815, .inr (.inl kn)))] sz)) 0 0 (va_A [(s0, .inr (8, [.ref k0, .long sy, .long sn, .int (nI slv), .ref s1, .ref s2, .int (nI sts), .ref s3])), (s1, .inl (cL, 39, .inr (.inl ssa))), (s2, .inl (cI, 38, .inl stl)), (s3, .inl (cI, 38, .inl srs)), (k0, .inr (7, [.ref k1, .ref k2, .int (nI kz), .int (nI kg)])), (k1, .inl (cL, 815, .inr (.inl ky))), (k2, .inl (cL, 815, .inr (.inl kn)))] sz) := by
  refine Met.ofW (cc := prog_7_method_8_code) (maxL := 10) (ret := none) (by decide) rfl ?_
  intro p e s m args below meth c s₁ B hml hv
  obtain ⟨rfl, hsz, hP, hK, hD0, hN⟩ := hv
  have hx := B.exec
  have hb := B.bytes
  have hr := B.returns
  have ht : ∀ w ∈ wsA, w.before _ s = true := fun w h => atoms_spec (ws := (Cond.code y_Se_learnFrom prog_7_method_8_code 10 none :: wsA)) B.pre w (List.mem_cons_of_mem _ h)
  have hown : s.vm.findClass "NetUnfolder$Search" = some m.cls := findClass_of_methodNamed B.named
  have hlocks := B.notSynchronized
  subst hsz
  have hD := hD0.self (sz := s.heap.size)
  generalize hAe : va_A [(s0, .inr (8, [.ref k0, .long sy, .long sn, .int (nI slv), .ref s1, .ref s2, .int (nI sts), .ref s3])), (s1, .inl (cL, 39, .inr (.inl ssa))), (s2, .inl (cI, 38, .inl stl)), (s3, .inl (cI, 38, .inl srs)), (k0, .inr (7, [.ref k1, .ref k2, .int (nI kz), .int (nI kg)])), (k1, .inl (cL, 815, .inr (.inl ky))), (k2, .inl (cL, 815, .inr (.inl kn)))] s.heap.size = A at hD ⊢
  have hA : ∀ q : Nat, s.heap.size ≤ q → A q := fun q h => by rw [← hAe]; exact Or.inr h
  have hS : va_S A s.heap s.heap [] := va_S.rf
  have hl := lv_entry ([.ref s0, .int (nI br)]) (n := 10) (Nat.le_of_ble_eq_true rfl)
  rw [lg_entry_eq]
  generalize (lg_sl ([.ref s0, .int (nI br)]) ++ List.replicate (10 - (lg_sl ([.ref s0, .int (nI br)])).length) Slot.unset).toArray = ls at hl ⊢
  replace hl : lv_has ls 10 [(0, .ref s0), (1, .int (nI br))] := hl
  refine W_Q (fun Q hQ => ?_)
  obtain ⟨hb1, hb1t, -⟩ := hsi.bounds
  have hb3 : slv ≤ sts := by obtain ⟨lev, -, -, q⟩ := hsi; exact q
  refine lv_aload_n hx hb d_Se_learnFrom_0 rfl (lv_at hl 0 rfl) ?_
  refine va_get (D := (dC, dI)) (ci := 8) (v := .ref k0) (C := "NetUnfolder$Search") (T := T_Se) (N := 8) hx hb ht in_Se hown hK hP 0 rfl rfl 0 (by decide) (ht _ wd_1_232) (fun _ h9 => h9) rfl d_Se_learnFrom_1 ?_
  refine va_get (D := (dC, dI)) (ci := 7) (v := .ref k1) (C := "NetUnfolder$Clauses") (T := T_Cs) (N := 4) hx hb ht in_Cs hown hK hP 4 rfl rfl 0 (by decide) (ht _ wd_1_210) (fun _ h9 => h9) rfl d_Se_learnFrom_4 ?_
  refine lv_iload_n hx hb d_Se_learnFrom_7 rfl (lv_at hl 1 rfl) ?_
  refine na_lald (k := br) hx hb hK hP 5 1 rfl rfl (by omega) (by decide) d_Se_learnFrom_8 ?_
  refine lv_lstore_n (lv' := [(2, .long (ky br)), (0, .ref s0), (1, .int (nI br))]) hx hb d_Se_learnFrom_9 rfl hl (by decide) rfl (fun ls hln => ?_)
  replace hl : lv_has ls 10 [(2, .long (ky br)), (0, .ref s0), (1, .int (nI br))] := hln
  clear hln
  refine lv_aload_n hx hb d_Se_learnFrom_10 rfl (lv_at hl 1 rfl) ?_
  refine va_get (D := (dC, dI)) (ci := 8) (v := .ref k0) (C := "NetUnfolder$Search") (T := T_Se) (N := 8) hx hb ht in_Se hown hK hP 0 rfl rfl 0 (by decide) (ht _ wd_1_232) (fun _ h9 => h9) rfl d_Se_learnFrom_11 ?_
  refine va_get (D := (dC, dI)) (ci := 7) (v := .ref k2) (C := "NetUnfolder$Clauses") (T := T_Cs) (N := 4) hx hb ht in_Cs hown hK hP 4 rfl rfl 1 (by decide) (ht _ wd_1_212) (fun _ h9 => h9) rfl d_Se_learnFrom_14 ?_
  refine lv_iload_n hx hb d_Se_learnFrom_17 rfl (lv_at hl 2 rfl) ?_
  refine na_lald (k := br) hx hb hK hP 6 1 rfl rfl (by omega) (by decide) d_Se_learnFrom_18 ?_
  refine lv_lstore (lv' := [(4, .long (kn br)), (2, .long (ky br)), (0, .ref s0), (1, .int (nI br))]) hx hb d_Se_learnFrom_19 hl (by decide) rfl (fun ls hln => ?_)
  replace hl : lv_has ls 10 [(4, .long (kn br)), (2, .long (ky br)), (0, .ref s0), (1, .int (nI br))] := hln
  clear hln
  refine lv_aload_n hx hb d_Se_learnFrom_21 rfl (lv_at hl 2 rfl) ?_
  refine va_get (D := (dC, dI)) (ci := 8) (v := .int (nI sts)) (C := "NetUnfolder$Search") (T := T_Se) (N := 8) hx hb ht in_Se hown hK hP 0 rfl rfl 6 (by decide) (ht _ wd_1_238) (fun _ h9 => h9) rfl d_Se_learnFrom_22 ?_
  refine lv_iconst (v := 1) hx hb d_Se_learnFrom_25 (by decide) ?_
  refine lv_isub hx hb d_Se_learnFrom_26 ?_
  refine ci_i (y := nI (sts - 1)) (cv_sub (a := sts) (b := 1) (by omega)) ?_
  refine lv_istore (lv' := [(6, .int (nI (sts - 1))), (4, .long (kn br)), (2, .long (ky br)), (0, .ref s0), (1, .int (nI br))]) hx hb d_Se_learnFrom_27 hl (by decide) rfl (fun ls hln => ?_)
  replace hl : lv_has ls 10 [(6, .int (nI (sts - 1))), (4, .long (kn br)), (2, .long (ky br)), (0, .ref s0), (1, .int (nI br))] := hln
  clear hln
  have hloop1 : ∀ (n29 : Nat) (g : Nat) (kv : Int32) (vi : Int64) (vo : Int64) (hkv : KvI g kv) (hvi : M38 vi) (hvo : M38 vo) (H : Heap) (locs : List Loc) (ls : Array Slot) (hl : lv_has ls 10 [(0, .ref s0), (1, .int (nI br)), (2, .long vi), (4, .long vo), (6, .int kv)]) (hP : va_P (dC, dI) clA [(s0, .inr (8, [.ref k0, .long sy, .long sn, .int (nI slv), .ref s1, .ref s2, .int (nI sts), .ref s3])), (s1, .inl (cL, 39, .inr (.inl ssa))), (s2, .inl (cI, 38, .inl stl)), (s3, .inl (cI, 38, .inl srs)), (k0, .inr (7, [.ref k1, .ref k2, .int (nI kz), .int (nI kg)])), (k1, .inl (cL, 815, .inr (.inl ky))), (k2, .inl (cL, 815, .inr (.inl kn)))] H) (hD : va_D A [(s0, .inr (8, [.ref k0, .long sy, .long sn, .int (nI slv), .ref s1, .ref s2, .int (nI sts), .ref s3])), (s1, .inl (cL, 39, .inr (.inl ssa))), (s2, .inl (cI, 38, .inl stl)), (s3, .inl (cI, 38, .inl srs)), (k0, .inr (7, [.ref k1, .ref k2, .int (nI kz), .int (nI kg)])), (k1, .inl (cL, 815, .inr (.inl ky))), (k2, .inl (cL, 815, .inr (.inl kn)))]) (hS : va_S A s.heap H locs) (hm29 : g < n29), W p l e (headSpec (Cond.code y_Se_learnFrom prog_7_method_8_code 10 none :: wsA) { frames := 2, cells := 0, slots := 0, locals := 45 }).room s m ([.ref s0, .int (nI br)] : List Value).toArray below meth c H locs 0 0 Q (F0 m 29 ls []) := by
    clear hl hP hD hS
    intro n29
    induction n29 with
    | zero => intro g kv vi vo hkv hvi hvo H locs ls hl hP hD hS hm; exact absurd hm (Nat.not_lt_zero _)
    | succ n29 hloop1_ih =>
      intro g kv vi vo hkv hvi hvo H locs ls hl hP hD hS hm29
      refine lv_iload hx hb d_Se_learnFrom_29 (lv_at hl 4 rfl) ?_
      refine lv_if_lt (tgt := 149) hx hb d_Se_learnFrom_31 (by decide) (fun hb2 => ?_) (fun hb2 => ?_)
      · skip
        refine lv_aload_n hx hb d_Se_learnFrom_149 rfl (lv_at hl 0 rfl) ?_
        refine lv_aload_n hx hb d_Se_learnFrom_150 rfl (lv_at hl 0 rfl) ?_
        refine lv_lload_n hx hb d_Se_learnFrom_151 rfl (lv_at hl 2 rfl) ?_
        refine lv_lload hx hb d_Se_learnFrom_152 (lv_at hl 3 rfl) ?_
        refine lv_lor hx hb d_Se_learnFrom_154 ?_
        have hPc := hP.sub (ws' := [(s0, .inr (8, [.ref k0, .long sy, .long sn, .int (nI slv), .ref s1, .ref s2, .int (nI sts), .ref s3])), (s1, .inl (cL, 39, .inr (.inl ssa)))]) [0, 1] rfl
        have hDc := hD.sub (ws' := [(s0, .inr (8, [.ref k0, .long sy, .long sn, .int (nI slv), .ref s1, .ref s2, .int (nI sts), .ref s3])), (s1, .inl (cL, 39, .inr (.inl ssa)))]) [0, 1] (by decide) rfl
        have hFc := va_free (wc := [(s0, .inr (8, [.ref k0, .long sy, .long sn, .int (nI slv), .ref s1, .ref s2, .int (nI sts), .ref s3])), (s1, .inl (cL, 39, .inr (.inl ssa)))]) hD hS hA [0, 1] rfl
        refine va_calli (va_runV (C := "NetUnfolder$Search") (As := [.long (vi ||| vo)]) (rest := [.ref s0]) ⟨hx, hb, hml, hown, ht⟩ (c_Se_levelBelow l dC dI cI cL cZ _ s0 k0 s1 s2 s3 sy sn slv sts ssa (vi ||| vo) (by first | assumption | omega | trivial | exact AllLt.zero | exact AllN.zero | exact AllM.zero | exact Or.inl rfl | exact Or.inr rfl) (by first | assumption | omega | trivial | exact AllLt.zero | exact AllN.zero | exact AllM.zero | exact Or.inl rfl | exact Or.inr rfl)) (cwV 1 ht (good_V wd_3_171 wd_3_173 ws_Se_levelBelow wd_1_9 wd_3_174) rfl rfl rfl (by decide +kernel) ⟨Nat.le_of_ble_eq_true rfl, Nat.le_of_ble_eq_true rfl⟩) ⟨fun a U g mk q => by obtain ⟨q0, q1, qP, qK, qD, qN⟩ := q; exact ⟨q0, q1, qP, va_K.moved (u := U) (U := U.calling g mk a) (Vm.Alike.refl U.vm) qK, qD, NwA.same (u := U) rfl qN⟩, (va_recv (q0 := 0) (ci := 8) hK hP rfl rfl), fun U hU hW => ⟨rfl, by rw [hU], by rw [hU]; exact hPc, va_K.moved hW.alike hK, hDc.weaken (fun _ _ _ _ => trivial), NwA.warm hW hN⟩⟩ rfl rfl hl.1 rfl (lv_room (Nat.le_of_ble_eq_true rfl)) d_Se_learnFrom_155 ⟨Nat.le_of_ble_eq_true rfl, Nat.le_of_ble_eq_true rfl⟩) hS (fun q _ h => hFc q h) hFc (fun r5 u9 t9 H3 locs ht9 hvm hw4 hB hz1 hk1 hSn => ?_)
        obtain ⟨hP1, hD1⟩ := hB
        rw [ht9] at hP1
        obtain ⟨hPn, hDn⟩ := va_join (wr := [(s2, .inl (cI, 38, .inl stl)), (s3, .inl (cI, 38, .inl srs)), (k0, .inr (7, [.ref k1, .ref k2, .int (nI kz), .int (nI kg)])), (k1, .inl (cL, 815, .inr (.inl ky))), (k2, .inl (cL, 815, .inr (.inl kn)))]) (w1 := [(s0, .inr (8, [.ref k0, .long sy, .long sn, .int (nI slv), .ref s1, .ref s2, .int (nI sts), .ref s3])), (s1, .inl (cL, 39, .inr (.inl ssa)))]) hP hD [0, 1] [2, 3, 4, 5, 6] rfl rfl (by decide) (by decide) hk1 hFc hP1 hD1
        replace hP : va_P (dC, dI) clA [(s2, .inl (cI, 38, .inl stl)), (s3, .inl (cI, 38, .inl srs)), (k0, .inr (7, [.ref k1, .ref k2, .int (nI kz), .int (nI kg)])), (k1, .inl (cL, 815, .inr (.inl ky))), (k2, .inl (cL, 815, .inr (.inl kn))), (s0, .inr (8, [.ref k0, .long sy, .long sn, .int (nI slv), .ref s1, .ref s2, .int (nI sts), .ref s3])), (s1, .inl (cL, 39, .inr (.inl ssa)))] H3 := hPn
        replace hD : va_D A [(s2, .inl (cI, 38, .inl stl)), (s3, .inl (cI, 38, .inl srs)), (k0, .inr (7, [.ref k1, .ref k2, .int (nI kz), .int (nI kg)])), (k1, .inl (cL, 815, .inr (.inl ky))), (k2, .inl (cL, 815, .inr (.inl kn))), (s0, .inr (8, [.ref k0, .long sy, .long sn, .int (nI slv), .ref s1, .ref s2, .int (nI sts), .ref s3])), (s1, .inl (cL, 39, .inr (.inl ssa)))] := hDn
        replace hS := hSn
        clear hPn hDn hSn
        clear hPc hDc hFc hP1 hD1 hk1 hz1 ht9 hvm
        refine W.cs (cells' := 0) (slots' := 0) rfl rfl ?_
        obtain ⟨k6, hr7, rfl⟩ := hw4
        have hPc := hP.sub (ws' := [(s0, .inr (8, [.ref k0, .long sy, .long sn, .int (nI slv), .ref s1, .ref s2, .int (nI sts), .ref s3])), (s1, .inl (cL, 39, .inr (.inl ssa)))]) [5, 6] rfl
        have hDc := hD.sub (ws' := [(s0, .inr (8, [.ref k0, .long sy, .long sn, .int (nI slv), .ref s1, .ref s2, .int (nI sts), .ref s3])), (s1, .inl (cL, 39, .inr (.inl ssa)))]) [5, 6] (by decide) rfl
        have hFc := va_free (wc := [(s0, .inr (8, [.ref k0, .long sy, .long sn, .int (nI slv), .ref s1, .ref s2, .int (nI sts), .ref s3])), (s1, .inl (cL, 39, .inr (.inl ssa)))]) hD hS hA [5, 6] rfl
        refine va_callv (va_runV (C := "NetUnfolder$Search") (As := [.int (nI k6)]) (rest := []) ⟨hx, hb, hml, hown, ht⟩ (c_Se_goBack l dC dI cI cL cZ _ s0 k0 s1 s2 s3 sy sn slv sts ssa stl srs k6 (by first | assumption | omega | trivial | exact AllLt.zero | exact AllN.zero | exact AllM.zero | exact Or.inl rfl | exact Or.inr rfl) (by first | assumption | omega | trivial | exact AllLt.zero | exact AllN.zero | exact AllM.zero | exact Or.inl rfl | exact Or.inr rfl) (by first | assumption | omega | trivial | exact AllLt.zero | exact AllN.zero | exact AllM.zero | exact Or.inl rfl | exact Or.inr rfl) (by first | assumption | omega | trivial | exact AllLt.zero | exact AllN.zero | exact AllM.zero | exact Or.inl rfl | exact Or.inr rfl)) (cwV 1 ht (good_V wd_3_175 wd_3_177 ws_Se_goBack wd_1_9 wd_3_178) rfl rfl rfl (by decide +kernel) ⟨Nat.le_of_ble_eq_true rfl, Nat.le_of_ble_eq_true rfl⟩) ⟨fun a U g mk q => by obtain ⟨q0, q1, qP, qK, qD, qN⟩ := q; exact ⟨q0, q1, qP, va_K.moved (u := U) (U := U.calling g mk a) (Vm.Alike.refl U.vm) qK, qD, NwA.same (u := U) rfl qN⟩, (va_recv (q0 := 5) (ci := 8) hK hP rfl rfl), fun U hU hW => ⟨rfl, by rw [hU], by rw [hU]; exact hPc, va_K.moved hW.alike hK, hDc.weaken (fun _ _ _ _ => trivial), NwA.warm hW hN⟩⟩ rfl rfl hl.1 rfl (lv_room (Nat.le_of_ble_eq_true rfl)) d_Se_learnFrom_158 ⟨Nat.le_of_ble_eq_true rfl, Nat.le_of_ble_eq_true rfl⟩) hS (fun q _ h => hFc q h) hFc (fun u9 t9 H8 locs ht9 hvm hw9 hB hz1 hk1 hSn => ?_)
        obtain ⟨sy111, sn112, sts113, ssa114, hf15, hP1, hD1⟩ := hB
        rw [ht9] at hP1
        obtain ⟨hPn, hDn⟩ := va_join (wr := [(s2, .inl (cI, 38, .inl stl)), (s3, .inl (cI, 38, .inl srs)), (k0, .inr (7, [.ref k1, .ref k2, .int (nI kz), .int (nI kg)])), (k1, .inl (cL, 815, .inr (.inl ky))), (k2, .inl (cL, 815, .inr (.inl kn)))]) (w1 := [(s0, .inr (8, [.ref k0, .long sy111, .long sn112, .int (nI k6), .ref s1, .ref s2, .int (nI sts113), .ref s3])), (s1, .inl (cL, 39, .inr (.inl ssa114)))]) hP hD [5, 6] [0, 1, 2, 3, 4] rfl rfl (by decide) (by decide) hk1 hFc hP1 hD1
        replace hP : va_P (dC, dI) clA [(s2, .inl (cI, 38, .inl stl)), (s3, .inl (cI, 38, .inl srs)), (k0, .inr (7, [.ref k1, .ref k2, .int (nI kz), .int (nI kg)])), (k1, .inl (cL, 815, .inr (.inl ky))), (k2, .inl (cL, 815, .inr (.inl kn))), (s0, .inr (8, [.ref k0, .long sy111, .long sn112, .int (nI k6), .ref s1, .ref s2, .int (nI sts113), .ref s3])), (s1, .inl (cL, 39, .inr (.inl ssa114)))] H8 := hPn
        replace hD : va_D A [(s2, .inl (cI, 38, .inl stl)), (s3, .inl (cI, 38, .inl srs)), (k0, .inr (7, [.ref k1, .ref k2, .int (nI kz), .int (nI kg)])), (k1, .inl (cL, 815, .inr (.inl ky))), (k2, .inl (cL, 815, .inr (.inl kn))), (s0, .inr (8, [.ref k0, .long sy111, .long sn112, .int (nI k6), .ref s1, .ref s2, .int (nI sts113), .ref s3])), (s1, .inl (cL, 39, .inr (.inl ssa114)))] := hDn
        replace hS := hSn
        clear hPn hDn hSn
        clear hPc hDc hFc hP1 hD1 hk1 hz1 ht9 hvm
        refine W.cs (cells' := 0) (slots' := 0) rfl rfl ?_
        obtain ⟨hb5, hb5t, -⟩ := SeI.bounds hf15
        refine lv_aload_n hx hb d_Se_learnFrom_161 rfl (lv_at hl 0 rfl) ?_
        refine va_get (D := (dC, dI)) (ci := 8) (v := .ref k0) (C := "NetUnfolder$Search") (T := T_Se) (N := 8) hx hb ht in_Se hown hK hP 5 rfl rfl 0 (by decide) (ht _ wd_1_232) (fun _ h9 => h9) rfl d_Se_learnFrom_162 ?_
        have hPc := hP.sub (ws' := [(k0, .inr (7, [.ref k1, .ref k2, .int (nI kz), .int (nI kg)])), (k1, .inl (cL, 815, .inr (.inl ky)))]) [2, 3] rfl
        have hDc := hD.sub (ws' := [(k0, .inr (7, [.ref k1, .ref k2, .int (nI kz), .int (nI kg)])), (k1, .inl (cL, 815, .inr (.inl ky)))]) [2, 3] (by decide) rfl
        have hFc := va_free (wc := [(k0, .inr (7, [.ref k1, .ref k2, .int (nI kz), .int (nI kg)])), (k1, .inl (cL, 815, .inr (.inl ky)))]) hD hS hA [2, 3] rfl
        refine va_calli (va_runV (C := "NetUnfolder$Clauses") (As := []) (rest := []) ⟨hx, hb, hml, hown, ht⟩ (c_Cs_isFull l dC dI cI cL cZ _ k0 k1 k2 kz kg ky (by first | assumption | omega | trivial | exact AllLt.zero | exact AllN.zero | exact AllM.zero | exact Or.inl rfl | exact Or.inr rfl) (by first | assumption | omega | trivial | exact AllLt.zero | exact AllN.zero | exact AllM.zero | exact Or.inl rfl | exact Or.inr rfl)) (cwV 0 ht (good_V wd_3_179 wd_3_180 wd_3_181 wd_1_8 wd_3_182) rfl rfl rfl (by decide +kernel) ⟨Nat.le_of_ble_eq_true rfl, Nat.le_of_ble_eq_true rfl⟩) ⟨fun a U g mk q => by obtain ⟨q0, q1, qP, qK, qD, qN⟩ := q; exact ⟨q0, q1, qP, va_K.moved (u := U) (U := U.calling g mk a) (Vm.Alike.refl U.vm) qK, qD, NwA.same (u := U) rfl qN⟩, (va_recv (q0 := 2) (ci := 7) hK hP rfl rfl), fun U hU hW => ⟨rfl, by rw [hU], by rw [hU]; exact hPc, va_K.moved hW.alike hK, hDc.weaken (fun _ _ _ _ => trivial), NwA.warm hW hN⟩⟩ rfl rfl hl.1 rfl (lv_room (Nat.le_of_ble_eq_true rfl)) d_Se_learnFrom_165 ⟨Nat.le_of_ble_eq_true rfl, Nat.le_of_ble_eq_true rfl⟩) hS (fun q _ h => hFc q h) hFc (fun r18 u9 t9 H16 locs ht9 hvm hw17 hB hz1 hk1 hSn => ?_)
        obtain ⟨hP1, hD1⟩ := hB
        rw [ht9] at hP1
        obtain ⟨hPn, hDn⟩ := va_join (wr := [(s2, .inl (cI, 38, .inl stl)), (s3, .inl (cI, 38, .inl srs)), (k2, .inl (cL, 815, .inr (.inl kn))), (s0, .inr (8, [.ref k0, .long sy111, .long sn112, .int (nI k6), .ref s1, .ref s2, .int (nI sts113), .ref s3])), (s1, .inl (cL, 39, .inr (.inl ssa114)))]) (w1 := [(k0, .inr (7, [.ref k1, .ref k2, .int (nI kz), .int (nI kg)])), (k1, .inl (cL, 815, .inr (.inl ky)))]) hP hD [2, 3] [0, 1, 4, 5, 6] rfl rfl (by decide) (by decide) hk1 hFc hP1 hD1
        replace hP : va_P (dC, dI) clA [(s2, .inl (cI, 38, .inl stl)), (s3, .inl (cI, 38, .inl srs)), (k2, .inl (cL, 815, .inr (.inl kn))), (s0, .inr (8, [.ref k0, .long sy111, .long sn112, .int (nI k6), .ref s1, .ref s2, .int (nI sts113), .ref s3])), (s1, .inl (cL, 39, .inr (.inl ssa114))), (k0, .inr (7, [.ref k1, .ref k2, .int (nI kz), .int (nI kg)])), (k1, .inl (cL, 815, .inr (.inl ky)))] H16 := hPn
        replace hD : va_D A [(s2, .inl (cI, 38, .inl stl)), (s3, .inl (cI, 38, .inl srs)), (k2, .inl (cL, 815, .inr (.inl kn))), (s0, .inr (8, [.ref k0, .long sy111, .long sn112, .int (nI k6), .ref s1, .ref s2, .int (nI sts113), .ref s3])), (s1, .inl (cL, 39, .inr (.inl ssa114))), (k0, .inr (7, [.ref k1, .ref k2, .int (nI kz), .int (nI kg)])), (k1, .inl (cL, 815, .inr (.inl ky)))] := hDn
        replace hS := hSn
        clear hPn hDn hSn
        clear hPc hDc hFc hP1 hD1 hk1 hz1 ht9 hvm
        refine W.cs (cells' := 0) (slots' := 0) rfl rfl ?_
        have hr19 := hw17
        refine lv_if_eq (tgt := 175) hx hb d_Se_learnFrom_168 (by decide) (fun hb20 => ?_) (fun hb20 => ?_)
        · skip
          refine lv_aload_n hx hb d_Se_learnFrom_175 rfl (lv_at hl 0 rfl) ?_
          refine va_get (D := (dC, dI)) (ci := 8) (v := .ref k0) (C := "NetUnfolder$Search") (T := T_Se) (N := 8) hx hb ht in_Se hown hK hP 3 rfl rfl 0 (by decide) (ht _ wd_1_232) (fun _ h9 => h9) rfl d_Se_learnFrom_176 ?_
          refine lv_lload_n hx hb d_Se_learnFrom_179 rfl (lv_at hl 2 rfl) ?_
          refine lv_aload_n hx hb d_Se_learnFrom_180 rfl (lv_at hl 0 rfl) ?_
          refine va_get (D := (dC, dI)) (ci := 8) (v := .ref s1) (C := "NetUnfolder$Search") (T := T_Se) (N := 8) hx hb ht in_Se hown hK hP 3 rfl rfl 4 (by decide) (ht _ wd_1_236) (fun _ h9 => h9) rfl d_Se_learnFrom_181 ?_
          refine lv_iconst (v := 0) hx hb d_Se_learnFrom_184 (by decide) ?_
          refine na_lald (k := 0) hx hb hK hP 4 1 rfl rfl (by omega) (by decide) d_Se_learnFrom_185 ?_
          refine lv_ldc2 hx hb hown (ht _ wd_3_160) d_Se_learnFrom_186 ?_
          refine lv_lxor hx hb d_Se_learnFrom_189 ?_
          refine lv_land hx hb d_Se_learnFrom_190 ?_
          refine lv_lload hx hb d_Se_learnFrom_191 (lv_at hl 3 rfl) ?_
          refine lv_aload_n hx hb d_Se_learnFrom_193 rfl (lv_at hl 0 rfl) ?_
          refine va_get (D := (dC, dI)) (ci := 8) (v := .ref s1) (C := "NetUnfolder$Search") (T := T_Se) (N := 8) hx hb ht in_Se hown hK hP 3 rfl rfl 4 (by decide) (ht _ wd_1_236) (fun _ h9 => h9) rfl d_Se_learnFrom_194 ?_
          refine lv_iconst (v := 0) hx hb d_Se_learnFrom_197 (by decide) ?_
          refine na_lald (k := 0) hx hb hK hP 4 1 rfl rfl (by omega) (by decide) d_Se_learnFrom_198 ?_
          refine lv_ldc2 hx hb hown (ht _ wd_3_160) d_Se_learnFrom_199 ?_
          refine lv_lxor hx hb d_Se_learnFrom_202 ?_
          refine lv_land hx hb d_Se_learnFrom_203 ?_
          have hPc := hP.sub (ws' := [(k0, .inr (7, [.ref k1, .ref k2, .int (nI kz), .int (nI kg)])), (k1, .inl (cL, 815, .inr (.inl ky))), (k2, .inl (cL, 815, .inr (.inl kn)))]) [5, 6, 2] rfl
          have hDc := hD.sub (ws' := [(k0, .inr (7, [.ref k1, .ref k2, .int (nI kz), .int (nI kg)])), (k1, .inl (cL, 815, .inr (.inl ky))), (k2, .inl (cL, 815, .inr (.inl kn)))]) [5, 6, 2] (by decide) rfl
          have hFc := va_free (wc := [(k0, .inr (7, [.ref k1, .ref k2, .int (nI kz), .int (nI kg)])), (k1, .inl (cL, 815, .inr (.inl ky))), (k2, .inl (cL, 815, .inr (.inl kn)))]) hD hS hA [5, 6, 2] rfl
          refine va_callv (va_runV (C := "NetUnfolder$Clauses") (As := [.long (vi &&& ((ssa114 0) ^^^ (-1))), .long (vo &&& ((ssa114 0) ^^^ (-1)))]) (rest := []) ⟨hx, hb, hml, hown, ht⟩ (c_Cs_learn l dC dI cI cL cZ _ k0 k1 k2 kz kg ky kn (vi &&& ((ssa114 0) ^^^ (-1))) (vo &&& ((ssa114 0) ^^^ (-1))) (by first | assumption | omega | trivial | exact AllLt.zero | exact AllN.zero | exact AllM.zero | exact Or.inl rfl | exact Or.inr rfl) (by first | assumption | omega | trivial | exact AllLt.zero | exact AllN.zero | exact AllM.zero | exact Or.inl rfl | exact Or.inr rfl) (by first | assumption | omega | trivial | exact AllLt.zero | exact AllN.zero | exact AllM.zero | exact Or.inl rfl | exact Or.inr rfl) (by first | assumption | omega | trivial | exact AllLt.zero | exact AllN.zero | exact AllM.zero | exact Or.inl rfl | exact Or.inr rfl) (by first | assumption | omega | trivial | exact AllLt.zero | exact AllN.zero | exact AllM.zero | exact Or.inl rfl | exact Or.inr rfl) (M38.andl hvi) (M38.andl hvo)) (cwV 2 ht (good_V wd_3_195 wd_3_196 wd_3_197 wd_1_8 wd_3_198) rfl rfl rfl (by decide +kernel) ⟨Nat.le_of_ble_eq_true rfl, Nat.le_of_ble_eq_true rfl⟩) ⟨fun a U g mk q => by obtain ⟨q0, q1, qP, qK, qD, qN⟩ := q; exact ⟨q0, q1, qP, va_K.moved (u := U) (U := U.calling g mk a) (Vm.Alike.refl U.vm) qK, qD, NwA.same (u := U) rfl qN⟩, (va_recv (q0 := 5) (ci := 7) hK hP rfl rfl), fun U hU hW => ⟨rfl, by rw [hU], by rw [hU]; exact hPc, va_K.moved hW.alike hK, hDc.weaken (fun _ _ _ _ => trivial), NwA.warm hW hN⟩⟩ rfl rfl hl.1 rfl (lv_room (Nat.le_of_ble_eq_true rfl)) d_Se_learnFrom_204 ⟨Nat.le_of_ble_eq_true rfl, Nat.le_of_ble_eq_true rfl⟩) hS (fun q _ h => hFc q h) hFc (fun u9 t9 H21 locs ht9 hvm hw22 hB hz1 hk1 hSn => ?_)
          obtain ⟨kz124, ky125, kn126, hf27, hf28, hf29, hf30, hP1, hD1⟩ := hB
          rw [ht9] at hP1
          obtain ⟨hPn, hDn⟩ := va_join (wr := [(s2, .inl (cI, 38, .inl stl)), (s3, .inl (cI, 38, .inl srs)), (s0, .inr (8, [.ref k0, .long sy111, .long sn112, .int (nI k6), .ref s1, .ref s2, .int (nI sts113), .ref s3])), (s1, .inl (cL, 39, .inr (.inl ssa114)))]) (w1 := [(k0, .inr (7, [.ref k1, .ref k2, .int (nI kz124), .int (nI kg)])), (k1, .inl (cL, 815, .inr (.inl ky125))), (k2, .inl (cL, 815, .inr (.inl kn126)))]) hP hD [5, 6, 2] [0, 1, 3, 4] rfl rfl (by decide) (by decide) hk1 hFc hP1 hD1
          replace hP : va_P (dC, dI) clA [(s2, .inl (cI, 38, .inl stl)), (s3, .inl (cI, 38, .inl srs)), (s0, .inr (8, [.ref k0, .long sy111, .long sn112, .int (nI k6), .ref s1, .ref s2, .int (nI sts113), .ref s3])), (s1, .inl (cL, 39, .inr (.inl ssa114))), (k0, .inr (7, [.ref k1, .ref k2, .int (nI kz124), .int (nI kg)])), (k1, .inl (cL, 815, .inr (.inl ky125))), (k2, .inl (cL, 815, .inr (.inl kn126)))] H21 := hPn
          replace hD : va_D A [(s2, .inl (cI, 38, .inl stl)), (s3, .inl (cI, 38, .inl srs)), (s0, .inr (8, [.ref k0, .long sy111, .long sn112, .int (nI k6), .ref s1, .ref s2, .int (nI sts113), .ref s3])), (s1, .inl (cL, 39, .inr (.inl ssa114))), (k0, .inr (7, [.ref k1, .ref k2, .int (nI kz124), .int (nI kg)])), (k1, .inl (cL, 815, .inr (.inl ky125))), (k2, .inl (cL, 815, .inr (.inl kn126)))] := hDn
          replace hS := hSn
          clear hPn hDn hSn
          clear hPc hDc hFc hP1 hD1 hk1 hz1 ht9 hvm
          refine W.cs (cells' := 0) (slots' := 0) rfl rfl ?_
          have hP9 := hP.sub (ws' := [(s0, .inr (8, [.ref k0, .long sy111, .long sn112, .int (nI k6), .ref s1, .ref s2, .int (nI sts113), .ref s3])), (s1, .inl (cL, 39, .inr (.inl ssa114))), (s2, .inl (cI, 38, .inl stl)), (s3, .inl (cI, 38, .inl srs)), (k0, .inr (7, [.ref k1, .ref k2, .int (nI kz124), .int (nI kg)])), (k1, .inl (cL, 815, .inr (.inl ky125))), (k2, .inl (cL, 815, .inr (.inl kn126)))]) [2, 3, 0, 1, 4, 5, 6] rfl
          have hD9 := hD.sub (ws' := [(s0, .inr (8, [.ref k0, .long sy111, .long sn112, .int (nI k6), .ref s1, .ref s2, .int (nI sts113), .ref s3])), (s1, .inl (cL, 39, .inr (.inl ssa114))), (s2, .inl (cI, 38, .inl stl)), (s3, .inl (cI, 38, .inl srs)), (k0, .inr (7, [.ref k1, .ref k2, .int (nI kz124), .int (nI kg)])), (k1, .inl (cL, 815, .inr (.inl ky125))), (k2, .inl (cL, 815, .inr (.inl kn126)))]) [2, 3, 0, 1, 4, 5, 6] (by decide) rfl
          subst hQ
          exact W.vret hx hb hr (fun t9 ht9 hW => ⟨⟨(), rfl, trivial, sy111, sn112, k6, sts113, ssa114, srs, kz124, ky125, kn126, (by first | assumption | omega | trivial | exact AllLt.zero | exact AllN.zero | exact AllM.zero | exact Or.inl rfl | exact Or.inr rfl), (by first | assumption | omega | trivial | exact AllLt.zero | exact AllN.zero | exact AllM.zero | exact Or.inl rfl | exact Or.inr rfl), (by first | assumption | omega | trivial | exact AllLt.zero | exact AllN.zero | exact AllM.zero | exact Or.inl rfl | exact Or.inr rfl), (by first | assumption | omega | trivial | exact AllLt.zero | exact AllN.zero | exact AllM.zero | exact Or.inl rfl | exact Or.inr rfl), (by first | assumption | omega | trivial | exact AllLt.zero | exact AllN.zero | exact AllM.zero | exact Or.inl rfl | exact Or.inr rfl), (by first | assumption | omega | trivial | exact AllLt.zero | exact AllN.zero | exact AllM.zero | exact Or.inl rfl | exact Or.inr rfl), by rw [ht9]; exact hP9, hD9⟩, hS.F ht9⟩) hS.2.2 d_Se_learnFrom_207
        · skip
          refine lv_aload_n hx hb d_Se_learnFrom_171 rfl (lv_at hl 0 rfl) ?_
          have hPc := hP.sub (ws' := [(s0, .inr (8, [.ref k0, .long sy111, .long sn112, .int (nI k6), .ref s1, .ref s2, .int (nI sts113), .ref s3])), (s2, .inl (cI, 38, .inl stl)), (s3, .inl (cI, 38, .inl srs)), (k0, .inr (7, [.ref k1, .ref k2, .int (nI kz), .int (nI kg)])), (k1, .inl (cL, 815, .inr (.inl ky))), (k2, .inl (cL, 815, .inr (.inl kn)))]) [3, 0, 1, 5, 6, 2] rfl
          have hDc := hD.sub (ws' := [(s0, .inr (8, [.ref k0, .long sy111, .long sn112, .int (nI k6), .ref s1, .ref s2, .int (nI sts113), .ref s3])), (s2, .inl (cI, 38, .inl stl)), (s3, .inl (cI, 38, .inl srs)), (k0, .inr (7, [.ref k1, .ref k2, .int (nI kz), .int (nI kg)])), (k1, .inl (cL, 815, .inr (.inl ky))), (k2, .inl (cL, 815, .inr (.inl kn)))]) [3, 0, 1, 5, 6, 2] (by decide) rfl
          have hFc := va_free (wc := [(s0, .inr (8, [.ref k0, .long sy111, .long sn112, .int (nI k6), .ref s1, .ref s2, .int (nI sts113), .ref s3])), (s2, .inl (cI, 38, .inl stl)), (s3, .inl (cI, 38, .inl srs)), (k0, .inr (7, [.ref k1, .ref k2, .int (nI kz), .int (nI kg)])), (k1, .inl (cL, 815, .inr (.inl ky))), (k2, .inl (cL, 815, .inr (.inl kn)))]) hD hS hA [3, 0, 1, 5, 6, 2] rfl
          refine va_callv (va_runV (C := "NetUnfolder$Search") (As := []) (rest := []) ⟨hx, hb, hml, hown, ht⟩ (c_Se_forgetIdle l dC dI cI cL cZ _ s0 k0 s1 s2 s3 sy111 sn112 k6 sts113 stl srs k1 k2 kz kg ky kn (by first | assumption | omega | trivial | exact AllLt.zero | exact AllN.zero | exact AllM.zero | exact Or.inl rfl | exact Or.inr rfl) (by first | assumption | omega | trivial | exact AllLt.zero | exact AllN.zero | exact AllM.zero | exact Or.inl rfl | exact Or.inr rfl) (by first | assumption | omega | trivial | exact AllLt.zero | exact AllN.zero | exact AllM.zero | exact Or.inl rfl | exact Or.inr rfl) (by first | assumption | omega | trivial | exact AllLt.zero | exact AllN.zero | exact AllM.zero | exact Or.inl rfl | exact Or.inr rfl) (by first | assumption | omega | trivial | exact AllLt.zero | exact AllN.zero | exact AllM.zero | exact Or.inl rfl | exact Or.inr rfl) (by first | assumption | omega | trivial | exact AllLt.zero | exact AllN.zero | exact AllM.zero | exact Or.inl rfl | exact Or.inr rfl) (by first | assumption | omega | trivial | exact AllLt.zero | exact AllN.zero | exact AllM.zero | exact Or.inl rfl | exact Or.inr rfl) (by first | assumption | omega | trivial | exact AllLt.zero | exact AllN.zero | exact AllM.zero | exact Or.inl rfl | exact Or.inr rfl)) (cwV 0 ht (good_V wd_3_183 wd_3_185 ws_Se_forgetIdle wd_1_9 wd_3_186) rfl rfl rfl (by decide +kernel) ⟨Nat.le_of_ble_eq_true rfl, Nat.le_of_ble_eq_true rfl⟩) ⟨fun a U g mk q => by obtain ⟨q0, q1, qP, qK, qD, qN⟩ := q; exact ⟨q0, q1, qP, va_K.moved (u := U) (U := U.calling g mk a) (Vm.Alike.refl U.vm) qK, qD, NwA.same (u := U) rfl qN⟩, (va_recv (q0 := 3) (ci := 8) hK hP rfl rfl), fun U hU hW => ⟨rfl, by rw [hU], by rw [hU]; exact hPc, va_K.moved hW.alike hK, hDc.weaken (fun _ _ _ _ => trivial), NwA.warm hW hN⟩⟩ rfl rfl hl.1 rfl (lv_room (Nat.le_of_ble_eq_true rfl)) d_Se_learnFrom_172 ⟨Nat.le_of_ble_eq_true rfl, Nat.le_of_ble_eq_true rfl⟩) hS (fun q _ h => hFc q h) hFc (fun u9 t9 H31 locs ht9 hvm hw32 hB hz1 hk1 hSn => ?_)
          obtain ⟨srs134, kz135, ky136, kn137, hf38, hf39, hf40, hf41, hf42, hP1, hD1⟩ := hB
          rw [ht9] at hP1
          obtain ⟨hPn, hDn⟩ := va_join (wr := [(s1, .inl (cL, 39, .inr (.inl ssa114)))]) (w1 := [(s0, .inr (8, [.ref k0, .long sy111, .long sn112, .int (nI k6), .ref s1, .ref s2, .int (nI sts113), .ref s3])), (s2, .inl (cI, 38, .inl stl)), (s3, .inl (cI, 38, .inl srs134)), (k0, .inr (7, [.ref k1, .ref k2, .int (nI kz135), .int (nI kg)])), (k1, .inl (cL, 815, .inr (.inl ky136))), (k2, .inl (cL, 815, .inr (.inl kn137)))]) hP hD [3, 0, 1, 5, 6, 2] [4] rfl rfl (by decide) (by decide) hk1 hFc hP1 hD1
          replace hP : va_P (dC, dI) clA [(s1, .inl (cL, 39, .inr (.inl ssa114))), (s0, .inr (8, [.ref k0, .long sy111, .long sn112, .int (nI k6), .ref s1, .ref s2, .int (nI sts113), .ref s3])), (s2, .inl (cI, 38, .inl stl)), (s3, .inl (cI, 38, .inl srs134)), (k0, .inr (7, [.ref k1, .ref k2, .int (nI kz135), .int (nI kg)])), (k1, .inl (cL, 815, .inr (.inl ky136))), (k2, .inl (cL, 815, .inr (.inl kn137)))] H31 := hPn
          replace hD : va_D A [(s1, .inl (cL, 39, .inr (.inl ssa114))), (s0, .inr (8, [.ref k0, .long sy111, .long sn112, .int (nI k6), .ref s1, .ref s2, .int (nI sts113), .ref s3])), (s2, .inl (cI, 38, .inl stl)), (s3, .inl (cI, 38, .inl srs134)), (k0, .inr (7, [.ref k1, .ref k2, .int (nI kz135), .int (nI kg)])), (k1, .inl (cL, 815, .inr (.inl ky136))), (k2, .inl (cL, 815, .inr (.inl kn137)))] := hDn
          replace hS := hSn
          clear hPn hDn hSn
          clear hPc hDc hFc hP1 hD1 hk1 hz1 ht9 hvm
          refine W.cs (cells' := 0) (slots' := 0) rfl rfl ?_
          refine lv_aload_n hx hb d_Se_learnFrom_175 rfl (lv_at hl 0 rfl) ?_
          refine va_get (D := (dC, dI)) (ci := 8) (v := .ref k0) (C := "NetUnfolder$Search") (T := T_Se) (N := 8) hx hb ht in_Se hown hK hP 1 rfl rfl 0 (by decide) (ht _ wd_1_232) (fun _ h9 => h9) rfl d_Se_learnFrom_176 ?_
          refine lv_lload_n hx hb d_Se_learnFrom_179 rfl (lv_at hl 2 rfl) ?_
          refine lv_aload_n hx hb d_Se_learnFrom_180 rfl (lv_at hl 0 rfl) ?_
          refine va_get (D := (dC, dI)) (ci := 8) (v := .ref s1) (C := "NetUnfolder$Search") (T := T_Se) (N := 8) hx hb ht in_Se hown hK hP 1 rfl rfl 4 (by decide) (ht _ wd_1_236) (fun _ h9 => h9) rfl d_Se_learnFrom_181 ?_
          refine lv_iconst (v := 0) hx hb d_Se_learnFrom_184 (by decide) ?_
          refine na_lald (k := 0) hx hb hK hP 0 1 rfl rfl (by omega) (by decide) d_Se_learnFrom_185 ?_
          refine lv_ldc2 hx hb hown (ht _ wd_3_160) d_Se_learnFrom_186 ?_
          refine lv_lxor hx hb d_Se_learnFrom_189 ?_
          refine lv_land hx hb d_Se_learnFrom_190 ?_
          refine lv_lload hx hb d_Se_learnFrom_191 (lv_at hl 3 rfl) ?_
          refine lv_aload_n hx hb d_Se_learnFrom_193 rfl (lv_at hl 0 rfl) ?_
          refine va_get (D := (dC, dI)) (ci := 8) (v := .ref s1) (C := "NetUnfolder$Search") (T := T_Se) (N := 8) hx hb ht in_Se hown hK hP 1 rfl rfl 4 (by decide) (ht _ wd_1_236) (fun _ h9 => h9) rfl d_Se_learnFrom_194 ?_
          refine lv_iconst (v := 0) hx hb d_Se_learnFrom_197 (by decide) ?_
          refine na_lald (k := 0) hx hb hK hP 0 1 rfl rfl (by omega) (by decide) d_Se_learnFrom_198 ?_
          refine lv_ldc2 hx hb hown (ht _ wd_3_160) d_Se_learnFrom_199 ?_
          refine lv_lxor hx hb d_Se_learnFrom_202 ?_
          refine lv_land hx hb d_Se_learnFrom_203 ?_
          have hPc := hP.sub (ws' := [(k0, .inr (7, [.ref k1, .ref k2, .int (nI kz135), .int (nI kg)])), (k1, .inl (cL, 815, .inr (.inl ky136))), (k2, .inl (cL, 815, .inr (.inl kn137)))]) [4, 5, 6] rfl
          have hDc := hD.sub (ws' := [(k0, .inr (7, [.ref k1, .ref k2, .int (nI kz135), .int (nI kg)])), (k1, .inl (cL, 815, .inr (.inl ky136))), (k2, .inl (cL, 815, .inr (.inl kn137)))]) [4, 5, 6] (by decide) rfl
          have hFc := va_free (wc := [(k0, .inr (7, [.ref k1, .ref k2, .int (nI kz135), .int (nI kg)])), (k1, .inl (cL, 815, .inr (.inl ky136))), (k2, .inl (cL, 815, .inr (.inl kn137)))]) hD hS hA [4, 5, 6] rfl
          refine va_callv (va_runV (C := "NetUnfolder$Clauses") (As := [.long (vi &&& ((ssa114 0) ^^^ (-1))), .long (vo &&& ((ssa114 0) ^^^ (-1)))]) (rest := []) ⟨hx, hb, hml, hown, ht⟩ (c_Cs_learn l dC dI cI cL cZ _ k0 k1 k2 kz135 kg ky136 kn137 (vi &&& ((ssa114 0) ^^^ (-1))) (vo &&& ((ssa114 0) ^^^ (-1))) (by first | assumption | omega | trivial | exact AllLt.zero | exact AllN.zero | exact AllM.zero | exact Or.inl rfl | exact Or.inr rfl) (by first | assumption | omega | trivial | exact AllLt.zero | exact AllN.zero | exact AllM.zero | exact Or.inl rfl | exact Or.inr rfl) (by first | assumption | omega | trivial | exact AllLt.zero | exact AllN.zero | exact AllM.zero | exact Or.inl rfl | exact Or.inr rfl) (by first | assumption | omega | trivial | exact AllLt.zero | exact AllN.zero | exact AllM.zero | exact Or.inl rfl | exact Or.inr rfl) (by first | assumption | omega | trivial | exact AllLt.zero | exact AllN.zero | exact AllM.zero | exact Or.inl rfl | exact Or.inr rfl) (M38.andl hvi) (M38.andl hvo)) (cwV 2 ht (good_V wd_3_195 wd_3_196 wd_3_197 wd_1_8 wd_3_198) rfl rfl rfl (by decide +kernel) ⟨Nat.le_of_ble_eq_true rfl, Nat.le_of_ble_eq_true rfl⟩) ⟨fun a U g mk q => by obtain ⟨q0, q1, qP, qK, qD, qN⟩ := q; exact ⟨q0, q1, qP, va_K.moved (u := U) (U := U.calling g mk a) (Vm.Alike.refl U.vm) qK, qD, NwA.same (u := U) rfl qN⟩, (va_recv (q0 := 4) (ci := 7) hK hP rfl rfl), fun U hU hW => ⟨rfl, by rw [hU], by rw [hU]; exact hPc, va_K.moved hW.alike hK, hDc.weaken (fun _ _ _ _ => trivial), NwA.warm hW hN⟩⟩ rfl rfl hl.1 rfl (lv_room (Nat.le_of_ble_eq_true rfl)) d_Se_learnFrom_204 ⟨Nat.le_of_ble_eq_true rfl, Nat.le_of_ble_eq_true rfl⟩) hS (fun q _ h => hFc q h) hFc (fun u9 t9 H43 locs ht9 hvm hw44 hB hz1 hk1 hSn => ?_)
          obtain ⟨kz146, ky147, kn148, hf49, hf50, hf51, hf52, hP1, hD1⟩ := hB
          rw [ht9] at hP1
          obtain ⟨hPn, hDn⟩ := va_join (wr := [(s1, .inl (cL, 39, .inr (.inl ssa114))), (s0, .inr (8, [.ref k0, .long sy111, .long sn112, .int (nI k6), .ref s1, .ref s2, .int (nI sts113), .ref s3])), (s2, .inl (cI, 38, .inl stl)), (s3, .inl (cI, 38, .inl srs134))]) (w1 := [(k0, .inr (7, [.ref k1, .ref k2, .int (nI kz146), .int (nI kg)])), (k1, .inl (cL, 815, .inr (.inl ky147))), (k2, .inl (cL, 815, .inr (.inl kn148)))]) hP hD [4, 5, 6] [0, 1, 2, 3] rfl rfl (by decide) (by decide) hk1 hFc hP1 hD1
          replace hP : va_P (dC, dI) clA [(s1, .inl (cL, 39, .inr (.inl ssa114))), (s0, .inr (8, [.ref k0, .long sy111, .long sn112, .int (nI k6), .ref s1, .ref s2, .int (nI sts113), .ref s3])), (s2, .inl (cI, 38, .inl stl)), (s3, .inl (cI, 38, .inl srs134)), (k0, .inr (7, [.ref k1, .ref k2, .int (nI kz146), .int (nI kg)])), (k1, .inl (cL, 815, .inr (.inl ky147))), (k2, .inl (cL, 815, .inr (.inl kn148)))] H43 := hPn
          replace hD : va_D A [(s1, .inl (cL, 39, .inr (.inl ssa114))), (s0, .inr (8, [.ref k0, .long sy111, .long sn112, .int (nI k6), .ref s1, .ref s2, .int (nI sts113), .ref s3])), (s2, .inl (cI, 38, .inl stl)), (s3, .inl (cI, 38, .inl srs134)), (k0, .inr (7, [.ref k1, .ref k2, .int (nI kz146), .int (nI kg)])), (k1, .inl (cL, 815, .inr (.inl ky147))), (k2, .inl (cL, 815, .inr (.inl kn148)))] := hDn
          replace hS := hSn
          clear hPn hDn hSn
          clear hPc hDc hFc hP1 hD1 hk1 hz1 ht9 hvm
          refine W.cs (cells' := 0) (slots' := 0) rfl rfl ?_
          have hP9 := hP.sub (ws' := [(s0, .inr (8, [.ref k0, .long sy111, .long sn112, .int (nI k6), .ref s1, .ref s2, .int (nI sts113), .ref s3])), (s1, .inl (cL, 39, .inr (.inl ssa114))), (s2, .inl (cI, 38, .inl stl)), (s3, .inl (cI, 38, .inl srs134)), (k0, .inr (7, [.ref k1, .ref k2, .int (nI kz146), .int (nI kg)])), (k1, .inl (cL, 815, .inr (.inl ky147))), (k2, .inl (cL, 815, .inr (.inl kn148)))]) [1, 0, 2, 3, 4, 5, 6] rfl
          have hD9 := hD.sub (ws' := [(s0, .inr (8, [.ref k0, .long sy111, .long sn112, .int (nI k6), .ref s1, .ref s2, .int (nI sts113), .ref s3])), (s1, .inl (cL, 39, .inr (.inl ssa114))), (s2, .inl (cI, 38, .inl stl)), (s3, .inl (cI, 38, .inl srs134)), (k0, .inr (7, [.ref k1, .ref k2, .int (nI kz146), .int (nI kg)])), (k1, .inl (cL, 815, .inr (.inl ky147))), (k2, .inl (cL, 815, .inr (.inl kn148)))]) [1, 0, 2, 3, 4, 5, 6] (by decide) rfl
          subst hQ
          exact W.vret hx hb hr (fun t9 ht9 hW => ⟨⟨(), rfl, trivial, sy111, sn112, k6, sts113, ssa114, srs134, kz146, ky147, kn148, (by first | assumption | omega | trivial | exact AllLt.zero | exact AllN.zero | exact AllM.zero | exact Or.inl rfl | exact Or.inr rfl), (by first | assumption | omega | trivial | exact AllLt.zero | exact AllN.zero | exact AllM.zero | exact Or.inl rfl | exact Or.inr rfl), (by first | assumption | omega | trivial | exact AllLt.zero | exact AllN.zero | exact AllM.zero | exact Or.inl rfl | exact Or.inr rfl), (by first | assumption | omega | trivial | exact AllLt.zero | exact AllN.zero | exact AllM.zero | exact Or.inl rfl | exact Or.inr rfl), (by first | assumption | omega | trivial | exact AllLt.zero | exact AllN.zero | exact AllM.zero | exact Or.inl rfl | exact Or.inr rfl), (by first | assumption | omega | trivial | exact AllLt.zero | exact AllN.zero | exact AllM.zero | exact Or.inl rfl | exact Or.inr rfl), by rw [ht9]; exact hP9, hD9⟩, hS.F ht9⟩) hS.2.2 d_Se_learnFrom_207
      · skip
        obtain ⟨j53, j53_l, j53_g, rfl⟩ := KvI.nat hkv hb2
        refine lv_lload_n hx hb d_Se_learnFrom_34 rfl (lv_at hl 2 rfl) ?_
        refine lv_lload hx hb d_Se_learnFrom_35 (lv_at hl 3 rfl) ?_
        refine lv_lor hx hb d_Se_learnFrom_37 ?_
        refine lv_aload_n hx hb d_Se_learnFrom_38 rfl (lv_at hl 0 rfl) ?_
        refine va_get (D := (dC, dI)) (ci := 8) (v := .ref s1) (C := "NetUnfolder$Search") (T := T_Se) (N := 8) hx hb ht in_Se hown hK hP 0 rfl rfl 4 (by decide) (ht _ wd_1_236) (fun _ h9 => h9) rfl d_Se_learnFrom_39 ?_
        refine lv_aload_n hx hb d_Se_learnFrom_42 rfl (lv_at hl 0 rfl) ?_
        refine va_get (D := (dC, dI)) (ci := 8) (v := .int (nI slv)) (C := "NetUnfolder$Search") (T := T_Se) (N := 8) hx hb ht in_Se hown hK hP 0 rfl rfl 3 (by decide) (ht _ wd_1_235) (fun _ h9 => h9) rfl d_Se_learnFrom_43 ?_
        refine na_lald (k := slv) hx hb hK hP 1 1 rfl rfl (by omega) (by decide) d_Se_learnFrom_46 ?_
        refine lv_land hx hb d_Se_learnFrom_47 ?_
        have hPc : va_P (dC, dI) clA [] _ := pu_P (H := H)
        have hDc : va_D (fun _ => True) [] := pu_D
        have hFc := pu_free hS hA
        refine va_calli (va_runS (As := [.long ((vi ||| vo) &&& (ssa slv))]) (rest := []) ⟨hx, hb, hml, hown, ht⟩ (c_Lo_bitCount l dC dI cI cL cZ _ ((vi ||| vo) &&& (ssa slv)) ) (va_cwS 1 ht (good_S wd_3_170 wd_2_227 wd_1_18 wd_2_228) rfl rfl rfl (by decide +kernel) ⟨Nat.le_of_ble_eq_true rfl, Nat.le_of_ble_eq_true rfl⟩) ⟨fun a U g mk q => by obtain ⟨q0, q1, qP, qK, qD, qN⟩ := q; exact ⟨q0, q1, qP, va_K.moved (u := U) (U := U.calling g mk a) (Vm.Alike.refl U.vm) qK, qD, NwA.same (u := U) rfl qN⟩, fun U hU hW => ⟨rfl, by rw [hU], by rw [hU]; exact hPc, va_K.moved hW.alike hK, hDc.weaken (fun _ _ _ _ => trivial), NwA.warm hW hN⟩⟩ rfl rfl hl.1 rfl (lv_room (Nat.le_of_ble_eq_true rfl)) d_Se_learnFrom_48 ⟨Nat.le_of_ble_eq_true rfl, Nat.le_of_ble_eq_true rfl⟩) hS (fun q _ h => hFc q h) hFc (fun r56 u9 t9 H54 locs ht9 hvm hw55 hB hz1 hk1 hSn => ?_)
        replace hP : va_P (dC, dI) clA [(s0, .inr (8, [.ref k0, .long sy, .long sn, .int (nI slv), .ref s1, .ref s2, .int (nI sts), .ref s3])), (s1, .inl (cL, 39, .inr (.inl ssa))), (s2, .inl (cI, 38, .inl stl)), (s3, .inl (cI, 38, .inl srs)), (k0, .inr (7, [.ref k1, .ref k2, .int (nI kz), .int (nI kg)])), (k1, .inl (cL, 815, .inr (.inl ky))), (k2, .inl (cL, 815, .inr (.inl kn)))] H54 := pu_keep hP hk1
        replace hS := hSn
        clear hSn hPc hDc hFc hk1 hz1 ht9 hvm hB
        refine W.cs (cells' := 0) (slots' := 0) rfl rfl ?_
        subst hw55
        have hpc9 : pcount ((vi ||| vo) &&& (ssa slv)) ≤ 64 := pcount_le _
        refine lv_iconst (v := 1) hx hb d_Se_learnFrom_51 (by decide) ?_
        refine lv_icmp_gt (tgt := 58) hx hb d_Se_learnFrom_52 (by decide) (fun hb57 => ?_) (fun hb57 => ?_)
        · skip
          replace hb57 := cv_lt (a := 1) (b := pcount ((vi ||| vo) &&& (ssa slv))) (by omega) (by omega) hb57
          refine lv_aload_n hx hb d_Se_learnFrom_58 rfl (lv_at hl 0 rfl) ?_
          refine va_get (D := (dC, dI)) (ci := 8) (v := .ref s3) (C := "NetUnfolder$Search") (T := T_Se) (N := 8) hx hb ht in_Se hown hK hP 0 rfl rfl 7 (by decide) (ht _ wd_1_239) (fun _ h9 => h9) rfl d_Se_learnFrom_59 ?_
          refine lv_aload_n hx hb d_Se_learnFrom_62 rfl (lv_at hl 0 rfl) ?_
          refine va_get (D := (dC, dI)) (ci := 8) (v := .ref s2) (C := "NetUnfolder$Search") (T := T_Se) (N := 8) hx hb ht in_Se hown hK hP 0 rfl rfl 5 (by decide) (ht _ wd_1_237) (fun _ h9 => h9) rfl d_Se_learnFrom_63 ?_
          refine lv_iload hx hb d_Se_learnFrom_66 (lv_at hl 4 rfl) ?_
          refine na_iald (k := j53) hx hb hK hP 2 0 rfl rfl (by omega) (by decide) d_Se_learnFrom_68 ?_
          obtain ⟨q58, q58_l, q58_e⟩ := hstl j53 (by omega)
          refine ci_i (y := nI q58) q58_e ?_
          refine na_iald (k := q58) hx hb hK hP 3 0 rfl rfl (by omega) (by decide) d_Se_learnFrom_69 ?_
          refine lv_istore (lv' := [(7, .int (srs q58)), (0, .ref s0), (1, .int (nI br)), (2, .long vi), (4, .long vo), (6, .int (nI j53))]) hx hb d_Se_learnFrom_70 hl (by decide) rfl (fun ls hln => ?_)
          replace hl : lv_has ls 10 [(7, .int (srs q58)), (0, .ref s0), (1, .int (nI br)), (2, .long vi), (4, .long vo), (6, .int (nI j53))] := hln
          clear hln
          refine lv_lconst (v := 1) hx hb d_Se_learnFrom_72 (by decide) ?_
          refine lv_aload_n hx hb d_Se_learnFrom_73 rfl (lv_at hl 1 rfl) ?_
          refine va_get (D := (dC, dI)) (ci := 8) (v := .ref s2) (C := "NetUnfolder$Search") (T := T_Se) (N := 8) hx hb ht in_Se hown hK hP 0 rfl rfl 5 (by decide) (ht _ wd_1_237) (fun _ h9 => h9) rfl d_Se_learnFrom_74 ?_
          refine lv_iload hx hb d_Se_learnFrom_77 (lv_at hl 5 rfl) ?_
          refine na_iald (k := j53) hx hb hK hP 2 0 rfl rfl (by omega) (by decide) d_Se_learnFrom_79 ?_
          refine lv_lshl (v := 1 <<< (Int32.toInt64 (stl j53) &&& 63)) hx hb d_Se_learnFrom_80 rfl ?_
          refine lv_lstore (lv' := [(8, .long (1 <<< (Int32.toInt64 (stl j53) &&& 63))), (7, .int (srs q58)), (0, .ref s0), (1, .int (nI br)), (2, .long vi), (4, .long vo), (6, .int (nI j53))]) hx hb d_Se_learnFrom_81 hl (by decide) rfl (fun ls hln => ?_)
          replace hl : lv_has ls 10 [(8, .long (1 <<< (Int32.toInt64 (stl j53) &&& 63))), (7, .int (srs q58)), (0, .ref s0), (1, .int (nI br)), (2, .long vi), (4, .long vo), (6, .int (nI j53))] := hln
          clear hln
          refine lv_lload_n hx hb d_Se_learnFrom_83 rfl (lv_at hl 4 rfl) ?_
          refine lv_lload hx hb d_Se_learnFrom_84 (lv_at hl 5 rfl) ?_
          refine lv_lor hx hb d_Se_learnFrom_86 ?_
          refine lv_lload hx hb d_Se_learnFrom_87 (lv_at hl 0 rfl) ?_
          refine lv_land hx hb d_Se_learnFrom_89 ?_
          refine lv_lconst (v := 0) hx hb d_Se_learnFrom_90 (by decide) ?_
          refine W.lcmp hx hb d_Se_learnFrom_91 ?_
          refine lv_if_eq (tgt := 143) hx hb d_Se_learnFrom_92 (by decide) (fun hb59 => ?_) (fun hb59 => ?_)
          · skip
            obtain ⟨kv60, kv60_e, kv60_k⟩ := KvI.dec (j := j53) j53_l
            refine lv_iinc (k := 6) (v := kv60) (lv' := [(6, .int kv60), (8, .long (1 <<< (Int32.toInt64 (stl j53) &&& 63))), (7, .int (srs q58)), (0, .ref s0), (1, .int (nI br)), (2, .long vi), (4, .long vo)]) hx hb d_Se_learnFrom_143 hl rfl kv60_e (by decide) rfl (fun ls hln => ?_)
            replace hl : lv_has ls 10 [(6, .int kv60), (8, .long (1 <<< (Int32.toInt64 (stl j53) &&& 63))), (7, .int (srs q58)), (0, .ref s0), (1, .int (nI br)), (2, .long vi), (4, .long vo)] := hln
            clear hln
            refine lv_goto (tgt := 29) hx hb d_Se_learnFrom_146 (by decide) ?_
            exact hloop1_ih j53 kv60 vi vo (by first | assumption | omega | trivial | exact AllLt.zero | exact AllN.zero | exact Or.inl rfl | exact Or.inr rfl) hvi hvo _ _ ls (lv_sub hl [3, 4, 5, 6, 0] rfl) (hP.sub [0, 1, 2, 3, 4, 5, 6] rfl) (hD.sub [0, 1, 2, 3, 4, 5, 6] (by decide) rfl) hS (by omega)
          · skip
            refine lv_iload hx hb d_Se_learnFrom_95 (lv_at hl 1 rfl) ?_
            refine lv_iconst (v := (-1)) hx hb d_Se_learnFrom_97 (by decide) ?_
            refine lv_icmp_eq (tgt := 143) hx hb d_Se_learnFrom_98 (by decide) (fun hb61 => ?_) (fun hb61 => ?_)
            · skip
              obtain ⟨kv62, kv62_e, kv62_k⟩ := KvI.dec (j := j53) j53_l
              refine lv_iinc (k := 6) (v := kv62) (lv' := [(6, .int kv62), (8, .long (1 <<< (Int32.toInt64 (stl j53) &&& 63))), (7, .int (srs q58)), (0, .ref s0), (1, .int (nI br)), (2, .long vi), (4, .long vo)]) hx hb d_Se_learnFrom_143 hl rfl kv62_e (by decide) rfl (fun ls hln => ?_)
              replace hl : lv_has ls 10 [(6, .int kv62), (8, .long (1 <<< (Int32.toInt64 (stl j53) &&& 63))), (7, .int (srs q58)), (0, .ref s0), (1, .int (nI br)), (2, .long vi), (4, .long vo)] := hln
              clear hln
              refine lv_goto (tgt := 29) hx hb d_Se_learnFrom_146 (by decide) ?_
              exact hloop1_ih j53 kv62 vi vo (by first | assumption | omega | trivial | exact AllLt.zero | exact AllN.zero | exact Or.inl rfl | exact Or.inr rfl) hvi hvo _ _ ls (lv_sub hl [3, 4, 5, 6, 0] rfl) (hP.sub [0, 1, 2, 3, 4, 5, 6] rfl) (hD.sub [0, 1, 2, 3, 4, 5, 6] (by decide) rfl) hS (by omega)
            · skip
              refine lv_lload_n hx hb d_Se_learnFrom_101 rfl (lv_at hl 4 rfl) ?_
              refine lv_aload_n hx hb d_Se_learnFrom_102 rfl (lv_at hl 2 rfl) ?_
              refine va_get (D := (dC, dI)) (ci := 8) (v := .ref k0) (C := "NetUnfolder$Search") (T := T_Se) (N := 8) hx hb ht in_Se hown hK hP 0 rfl rfl 0 (by decide) (ht _ wd_1_232) (fun _ h9 => h9) rfl d_Se_learnFrom_103 ?_
              refine va_get (D := (dC, dI)) (ci := 7) (v := .ref k1) (C := "NetUnfolder$Clauses") (T := T_Cs) (N := 4) hx hb ht in_Cs hown hK hP 4 rfl rfl 0 (by decide) (ht _ wd_1_210) (fun _ h9 => h9) rfl d_Se_learnFrom_106 ?_
              refine lv_iload hx hb d_Se_learnFrom_109 (lv_at hl 1 rfl) ?_
              obtain ⟨w63, w63_l, w63_e⟩ := (hsrs q58 (by omega)).resolve_left hb61
              refine ci_i (y := nI w63) w63_e ?_
              refine na_lald (k := w63) hx hb hK hP 5 1 rfl rfl (by omega) (by decide) d_Se_learnFrom_111 ?_
              refine lv_lor hx hb d_Se_learnFrom_112 ?_
              refine lv_lload hx hb d_Se_learnFrom_113 (lv_at hl 0 rfl) ?_
              refine lv_ldc2 hx hb hown (ht _ wd_3_160) d_Se_learnFrom_115 ?_
              refine lv_lxor hx hb d_Se_learnFrom_118 ?_
              refine lv_land hx hb d_Se_learnFrom_119 ?_
              refine lv_lstore_n (lv' := [(2, .long ((vi ||| (ky w63)) &&& ((1 <<< (Int32.toInt64 (stl j53) &&& 63)) ^^^ (-1)))), (8, .long (1 <<< (Int32.toInt64 (stl j53) &&& 63))), (7, .int (srs q58)), (0, .ref s0), (1, .int (nI br)), (4, .long vo), (6, .int (nI j53))]) hx hb d_Se_learnFrom_120 rfl hl (by decide) rfl (fun ls hln => ?_)
              replace hl : lv_has ls 10 [(2, .long ((vi ||| (ky w63)) &&& ((1 <<< (Int32.toInt64 (stl j53) &&& 63)) ^^^ (-1)))), (8, .long (1 <<< (Int32.toInt64 (stl j53) &&& 63))), (7, .int (srs q58)), (0, .ref s0), (1, .int (nI br)), (4, .long vo), (6, .int (nI j53))] := hln
              clear hln
              refine lv_lload hx hb d_Se_learnFrom_121 (lv_at hl 5 rfl) ?_
              refine lv_aload_n hx hb d_Se_learnFrom_123 rfl (lv_at hl 3 rfl) ?_
              refine va_get (D := (dC, dI)) (ci := 8) (v := .ref k0) (C := "NetUnfolder$Search") (T := T_Se) (N := 8) hx hb ht in_Se hown hK hP 0 rfl rfl 0 (by decide) (ht _ wd_1_232) (fun _ h9 => h9) rfl d_Se_learnFrom_124 ?_
              refine va_get (D := (dC, dI)) (ci := 7) (v := .ref k2) (C := "NetUnfolder$Clauses") (T := T_Cs) (N := 4) hx hb ht in_Cs hown hK hP 4 rfl rfl 1 (by decide) (ht _ wd_1_212) (fun _ h9 => h9) rfl d_Se_learnFrom_127 ?_
              refine lv_iload hx hb d_Se_learnFrom_130 (lv_at hl 2 rfl) ?_
              obtain ⟨w64, w64_l, w64_e⟩ := (hsrs q58 (by omega)).resolve_left hb61
              refine ci_i (y := nI w64) w64_e ?_
              refine na_lald (k := w64) hx hb hK hP 6 1 rfl rfl (by omega) (by decide) d_Se_learnFrom_132 ?_
              refine lv_lor hx hb d_Se_learnFrom_133 ?_
              refine lv_lload hx hb d_Se_learnFrom_134 (lv_at hl 1 rfl) ?_
              refine lv_ldc2 hx hb hown (ht _ wd_3_160) d_Se_learnFrom_136 ?_
              refine lv_lxor hx hb d_Se_learnFrom_139 ?_
              refine lv_land hx hb d_Se_learnFrom_140 ?_
              refine lv_lstore (lv' := [(4, .long ((vo ||| (kn w64)) &&& ((1 <<< (Int32.toInt64 (stl j53) &&& 63)) ^^^ (-1)))), (2, .long ((vi ||| (ky w63)) &&& ((1 <<< (Int32.toInt64 (stl j53) &&& 63)) ^^^ (-1)))), (8, .long (1 <<< (Int32.toInt64 (stl j53) &&& 63))), (7, .int (srs q58)), (0, .ref s0), (1, .int (nI br)), (6, .int (nI j53))]) hx hb d_Se_learnFrom_141 hl (by decide) rfl (fun ls hln => ?_)
              replace hl : lv_has ls 10 [(4, .long ((vo ||| (kn w64)) &&& ((1 <<< (Int32.toInt64 (stl j53) &&& 63)) ^^^ (-1)))), (2, .long ((vi ||| (ky w63)) &&& ((1 <<< (Int32.toInt64 (stl j53) &&& 63)) ^^^ (-1)))), (8, .long (1 <<< (Int32.toInt64 (stl j53) &&& 63))), (7, .int (srs q58)), (0, .ref s0), (1, .int (nI br)), (6, .int (nI j53))] := hln
              clear hln
              obtain ⟨kv65, kv65_e, kv65_k⟩ := KvI.dec (j := j53) j53_l
              refine lv_iinc (k := 6) (v := kv65) (lv' := [(6, .int kv65), (4, .long ((vo ||| (kn w64)) &&& ((1 <<< (Int32.toInt64 (stl j53) &&& 63)) ^^^ (-1)))), (2, .long ((vi ||| (ky w63)) &&& ((1 <<< (Int32.toInt64 (stl j53) &&& 63)) ^^^ (-1)))), (8, .long (1 <<< (Int32.toInt64 (stl j53) &&& 63))), (7, .int (srs q58)), (0, .ref s0), (1, .int (nI br))]) hx hb d_Se_learnFrom_143 hl rfl kv65_e (by decide) rfl (fun ls hln => ?_)
              replace hl : lv_has ls 10 [(6, .int kv65), (4, .long ((vo ||| (kn w64)) &&& ((1 <<< (Int32.toInt64 (stl j53) &&& 63)) ^^^ (-1)))), (2, .long ((vi ||| (ky w63)) &&& ((1 <<< (Int32.toInt64 (stl j53) &&& 63)) ^^^ (-1)))), (8, .long (1 <<< (Int32.toInt64 (stl j53) &&& 63))), (7, .int (srs q58)), (0, .ref s0), (1, .int (nI br))] := hln
              clear hln
              refine lv_goto (tgt := 29) hx hb d_Se_learnFrom_146 (by decide) ?_
              exact hloop1_ih j53 kv65 ((vi ||| (ky w63)) &&& ((1 <<< (Int32.toInt64 (stl j53) &&& 63)) ^^^ (-1))) ((vo ||| (kn w64)) &&& ((1 <<< (Int32.toInt64 (stl j53) &&& 63)) ^^^ (-1))) (by first | assumption | omega | trivial | exact AllLt.zero | exact AllN.zero | exact Or.inl rfl | exact Or.inr rfl) (M38.andl (M38.or hvi (hky _ (by omega)))) (M38.andl (M38.or hvo (hkn _ (by omega)))) _ _ ls (lv_sub hl [5, 6, 2, 1, 0] rfl) (hP.sub [0, 1, 2, 3, 4, 5, 6] rfl) (hD.sub [0, 1, 2, 3, 4, 5, 6] (by decide) rfl) hS (by omega)
        · skip
          replace hb57 := cv_nlt (a := 1) (b := pcount ((vi ||| vo) &&& (ssa slv))) (by omega) (by omega) hb57
          refine lv_goto (tgt := 149) hx hb d_Se_learnFrom_55 (by decide) ?_
          refine lv_aload_n hx hb d_Se_learnFrom_149 rfl (lv_at hl 0 rfl) ?_
          refine lv_aload_n hx hb d_Se_learnFrom_150 rfl (lv_at hl 0 rfl) ?_
          refine lv_lload_n hx hb d_Se_learnFrom_151 rfl (lv_at hl 2 rfl) ?_
          refine lv_lload hx hb d_Se_learnFrom_152 (lv_at hl 3 rfl) ?_
          refine lv_lor hx hb d_Se_learnFrom_154 ?_
          have hPc := hP.sub (ws' := [(s0, .inr (8, [.ref k0, .long sy, .long sn, .int (nI slv), .ref s1, .ref s2, .int (nI sts), .ref s3])), (s1, .inl (cL, 39, .inr (.inl ssa)))]) [0, 1] rfl
          have hDc := hD.sub (ws' := [(s0, .inr (8, [.ref k0, .long sy, .long sn, .int (nI slv), .ref s1, .ref s2, .int (nI sts), .ref s3])), (s1, .inl (cL, 39, .inr (.inl ssa)))]) [0, 1] (by decide) rfl
          have hFc := va_free (wc := [(s0, .inr (8, [.ref k0, .long sy, .long sn, .int (nI slv), .ref s1, .ref s2, .int (nI sts), .ref s3])), (s1, .inl (cL, 39, .inr (.inl ssa)))]) hD hS hA [0, 1] rfl
          refine va_calli (va_runV (C := "NetUnfolder$Search") (As := [.long (vi ||| vo)]) (rest := [.ref s0]) ⟨hx, hb, hml, hown, ht⟩ (c_Se_levelBelow l dC dI cI cL cZ _ s0 k0 s1 s2 s3 sy sn slv sts ssa (vi ||| vo) (by first | assumption | omega | trivial | exact AllLt.zero | exact AllN.zero | exact AllM.zero | exact Or.inl rfl | exact Or.inr rfl) (by first | assumption | omega | trivial | exact AllLt.zero | exact AllN.zero | exact AllM.zero | exact Or.inl rfl | exact Or.inr rfl)) (cwV 1 ht (good_V wd_3_171 wd_3_173 ws_Se_levelBelow wd_1_9 wd_3_174) rfl rfl rfl (by decide +kernel) ⟨Nat.le_of_ble_eq_true rfl, Nat.le_of_ble_eq_true rfl⟩) ⟨fun a U g mk q => by obtain ⟨q0, q1, qP, qK, qD, qN⟩ := q; exact ⟨q0, q1, qP, va_K.moved (u := U) (U := U.calling g mk a) (Vm.Alike.refl U.vm) qK, qD, NwA.same (u := U) rfl qN⟩, (va_recv (q0 := 0) (ci := 8) hK hP rfl rfl), fun U hU hW => ⟨rfl, by rw [hU], by rw [hU]; exact hPc, va_K.moved hW.alike hK, hDc.weaken (fun _ _ _ _ => trivial), NwA.warm hW hN⟩⟩ rfl rfl hl.1 rfl (lv_room (Nat.le_of_ble_eq_true rfl)) d_Se_learnFrom_155 ⟨Nat.le_of_ble_eq_true rfl, Nat.le_of_ble_eq_true rfl⟩) hS (fun q _ h => hFc q h) hFc (fun r68 u9 t9 H66 locs ht9 hvm hw67 hB hz1 hk1 hSn => ?_)
          obtain ⟨hP1, hD1⟩ := hB
          rw [ht9] at hP1
          obtain ⟨hPn, hDn⟩ := va_join (wr := [(s2, .inl (cI, 38, .inl stl)), (s3, .inl (cI, 38, .inl srs)), (k0, .inr (7, [.ref k1, .ref k2, .int (nI kz), .int (nI kg)])), (k1, .inl (cL, 815, .inr (.inl ky))), (k2, .inl (cL, 815, .inr (.inl kn)))]) (w1 := [(s0, .inr (8, [.ref k0, .long sy, .long sn, .int (nI slv), .ref s1, .ref s2, .int (nI sts), .ref s3])), (s1, .inl (cL, 39, .inr (.inl ssa)))]) hP hD [0, 1] [2, 3, 4, 5, 6] rfl rfl (by decide) (by decide) hk1 hFc hP1 hD1
          replace hP : va_P (dC, dI) clA [(s2, .inl (cI, 38, .inl stl)), (s3, .inl (cI, 38, .inl srs)), (k0, .inr (7, [.ref k1, .ref k2, .int (nI kz), .int (nI kg)])), (k1, .inl (cL, 815, .inr (.inl ky))), (k2, .inl (cL, 815, .inr (.inl kn))), (s0, .inr (8, [.ref k0, .long sy, .long sn, .int (nI slv), .ref s1, .ref s2, .int (nI sts), .ref s3])), (s1, .inl (cL, 39, .inr (.inl ssa)))] H66 := hPn
          replace hD : va_D A [(s2, .inl (cI, 38, .inl stl)), (s3, .inl (cI, 38, .inl srs)), (k0, .inr (7, [.ref k1, .ref k2, .int (nI kz), .int (nI kg)])), (k1, .inl (cL, 815, .inr (.inl ky))), (k2, .inl (cL, 815, .inr (.inl kn))), (s0, .inr (8, [.ref k0, .long sy, .long sn, .int (nI slv), .ref s1, .ref s2, .int (nI sts), .ref s3])), (s1, .inl (cL, 39, .inr (.inl ssa)))] := hDn
          replace hS := hSn
          clear hPn hDn hSn
          clear hPc hDc hFc hP1 hD1 hk1 hz1 ht9 hvm
          refine W.cs (cells' := 0) (slots' := 0) rfl rfl ?_
          obtain ⟨k69, hr70, rfl⟩ := hw67
          have hPc := hP.sub (ws' := [(s0, .inr (8, [.ref k0, .long sy, .long sn, .int (nI slv), .ref s1, .ref s2, .int (nI sts), .ref s3])), (s1, .inl (cL, 39, .inr (.inl ssa)))]) [5, 6] rfl
          have hDc := hD.sub (ws' := [(s0, .inr (8, [.ref k0, .long sy, .long sn, .int (nI slv), .ref s1, .ref s2, .int (nI sts), .ref s3])), (s1, .inl (cL, 39, .inr (.inl ssa)))]) [5, 6] (by decide) rfl
          have hFc := va_free (wc := [(s0, .inr (8, [.ref k0, .long sy, .long sn, .int (nI slv), .ref s1, .ref s2, .int (nI sts), .ref s3])), (s1, .inl (cL, 39, .inr (.inl ssa)))]) hD hS hA [5, 6] rfl
          refine va_callv (va_runV (C := "NetUnfolder$Search") (As := [.int (nI k69)]) (rest := []) ⟨hx, hb, hml, hown, ht⟩ (c_Se_goBack l dC dI cI cL cZ _ s0 k0 s1 s2 s3 sy sn slv sts ssa stl srs k69 (by first | assumption | omega | trivial | exact AllLt.zero | exact AllN.zero | exact AllM.zero | exact Or.inl rfl | exact Or.inr rfl) (by first | assumption | omega | trivial | exact AllLt.zero | exact AllN.zero | exact AllM.zero | exact Or.inl rfl | exact Or.inr rfl) (by first | assumption | omega | trivial | exact AllLt.zero | exact AllN.zero | exact AllM.zero | exact Or.inl rfl | exact Or.inr rfl) (by first | assumption | omega | trivial | exact AllLt.zero | exact AllN.zero | exact AllM.zero | exact Or.inl rfl | exact Or.inr rfl)) (cwV 1 ht (good_V wd_3_175 wd_3_177 ws_Se_goBack wd_1_9 wd_3_178) rfl rfl rfl (by decide +kernel) ⟨Nat.le_of_ble_eq_true rfl, Nat.le_of_ble_eq_true rfl⟩) ⟨fun a U g mk q => by obtain ⟨q0, q1, qP, qK, qD, qN⟩ := q; exact ⟨q0, q1, qP, va_K.moved (u := U) (U := U.calling g mk a) (Vm.Alike.refl U.vm) qK, qD, NwA.same (u := U) rfl qN⟩, (va_recv (q0 := 5) (ci := 8) hK hP rfl rfl), fun U hU hW => ⟨rfl, by rw [hU], by rw [hU]; exact hPc, va_K.moved hW.alike hK, hDc.weaken (fun _ _ _ _ => trivial), NwA.warm hW hN⟩⟩ rfl rfl hl.1 rfl (lv_room (Nat.le_of_ble_eq_true rfl)) d_Se_learnFrom_158 ⟨Nat.le_of_ble_eq_true rfl, Nat.le_of_ble_eq_true rfl⟩) hS (fun q _ h => hFc q h) hFc (fun u9 t9 H71 locs ht9 hvm hw72 hB hz1 hk1 hSn => ?_)
          obtain ⟨sy174, sn175, sts176, ssa177, hf78, hP1, hD1⟩ := hB
          rw [ht9] at hP1
          obtain ⟨hPn, hDn⟩ := va_join (wr := [(s2, .inl (cI, 38, .inl stl)), (s3, .inl (cI, 38, .inl srs)), (k0, .inr (7, [.ref k1, .ref k2, .int (nI kz), .int (nI kg)])), (k1, .inl (cL, 815, .inr (.inl ky))), (k2, .inl (cL, 815, .inr (.inl kn)))]) (w1 := [(s0, .inr (8, [.ref k0, .long sy174, .long sn175, .int (nI k69), .ref s1, .ref s2, .int (nI sts176), .ref s3])), (s1, .inl (cL, 39, .inr (.inl ssa177)))]) hP hD [5, 6] [0, 1, 2, 3, 4] rfl rfl (by decide) (by decide) hk1 hFc hP1 hD1
          replace hP : va_P (dC, dI) clA [(s2, .inl (cI, 38, .inl stl)), (s3, .inl (cI, 38, .inl srs)), (k0, .inr (7, [.ref k1, .ref k2, .int (nI kz), .int (nI kg)])), (k1, .inl (cL, 815, .inr (.inl ky))), (k2, .inl (cL, 815, .inr (.inl kn))), (s0, .inr (8, [.ref k0, .long sy174, .long sn175, .int (nI k69), .ref s1, .ref s2, .int (nI sts176), .ref s3])), (s1, .inl (cL, 39, .inr (.inl ssa177)))] H71 := hPn
          replace hD : va_D A [(s2, .inl (cI, 38, .inl stl)), (s3, .inl (cI, 38, .inl srs)), (k0, .inr (7, [.ref k1, .ref k2, .int (nI kz), .int (nI kg)])), (k1, .inl (cL, 815, .inr (.inl ky))), (k2, .inl (cL, 815, .inr (.inl kn))), (s0, .inr (8, [.ref k0, .long sy174, .long sn175, .int (nI k69), .ref s1, .ref s2, .int (nI sts176), .ref s3])), (s1, .inl (cL, 39, .inr (.inl ssa177)))] := hDn
          replace hS := hSn
          clear hPn hDn hSn
          clear hPc hDc hFc hP1 hD1 hk1 hz1 ht9 hvm
          refine W.cs (cells' := 0) (slots' := 0) rfl rfl ?_
          obtain ⟨hb5, hb5t, -⟩ := SeI.bounds hf78
          refine lv_aload_n hx hb d_Se_learnFrom_161 rfl (lv_at hl 0 rfl) ?_
          refine va_get (D := (dC, dI)) (ci := 8) (v := .ref k0) (C := "NetUnfolder$Search") (T := T_Se) (N := 8) hx hb ht in_Se hown hK hP 5 rfl rfl 0 (by decide) (ht _ wd_1_232) (fun _ h9 => h9) rfl d_Se_learnFrom_162 ?_
          have hPc := hP.sub (ws' := [(k0, .inr (7, [.ref k1, .ref k2, .int (nI kz), .int (nI kg)])), (k1, .inl (cL, 815, .inr (.inl ky)))]) [2, 3] rfl
          have hDc := hD.sub (ws' := [(k0, .inr (7, [.ref k1, .ref k2, .int (nI kz), .int (nI kg)])), (k1, .inl (cL, 815, .inr (.inl ky)))]) [2, 3] (by decide) rfl
          have hFc := va_free (wc := [(k0, .inr (7, [.ref k1, .ref k2, .int (nI kz), .int (nI kg)])), (k1, .inl (cL, 815, .inr (.inl ky)))]) hD hS hA [2, 3] rfl
          refine va_calli (va_runV (C := "NetUnfolder$Clauses") (As := []) (rest := []) ⟨hx, hb, hml, hown, ht⟩ (c_Cs_isFull l dC dI cI cL cZ _ k0 k1 k2 kz kg ky (by first | assumption | omega | trivial | exact AllLt.zero | exact AllN.zero | exact AllM.zero | exact Or.inl rfl | exact Or.inr rfl) (by first | assumption | omega | trivial | exact AllLt.zero | exact AllN.zero | exact AllM.zero | exact Or.inl rfl | exact Or.inr rfl)) (cwV 0 ht (good_V wd_3_179 wd_3_180 wd_3_181 wd_1_8 wd_3_182) rfl rfl rfl (by decide +kernel) ⟨Nat.le_of_ble_eq_true rfl, Nat.le_of_ble_eq_true rfl⟩) ⟨fun a U g mk q => by obtain ⟨q0, q1, qP, qK, qD, qN⟩ := q; exact ⟨q0, q1, qP, va_K.moved (u := U) (U := U.calling g mk a) (Vm.Alike.refl U.vm) qK, qD, NwA.same (u := U) rfl qN⟩, (va_recv (q0 := 2) (ci := 7) hK hP rfl rfl), fun U hU hW => ⟨rfl, by rw [hU], by rw [hU]; exact hPc, va_K.moved hW.alike hK, hDc.weaken (fun _ _ _ _ => trivial), NwA.warm hW hN⟩⟩ rfl rfl hl.1 rfl (lv_room (Nat.le_of_ble_eq_true rfl)) d_Se_learnFrom_165 ⟨Nat.le_of_ble_eq_true rfl, Nat.le_of_ble_eq_true rfl⟩) hS (fun q _ h => hFc q h) hFc (fun r81 u9 t9 H79 locs ht9 hvm hw80 hB hz1 hk1 hSn => ?_)
          obtain ⟨hP1, hD1⟩ := hB
          rw [ht9] at hP1
          obtain ⟨hPn, hDn⟩ := va_join (wr := [(s2, .inl (cI, 38, .inl stl)), (s3, .inl (cI, 38, .inl srs)), (k2, .inl (cL, 815, .inr (.inl kn))), (s0, .inr (8, [.ref k0, .long sy174, .long sn175, .int (nI k69), .ref s1, .ref s2, .int (nI sts176), .ref s3])), (s1, .inl (cL, 39, .inr (.inl ssa177)))]) (w1 := [(k0, .inr (7, [.ref k1, .ref k2, .int (nI kz), .int (nI kg)])), (k1, .inl (cL, 815, .inr (.inl ky)))]) hP hD [2, 3] [0, 1, 4, 5, 6] rfl rfl (by decide) (by decide) hk1 hFc hP1 hD1
          replace hP : va_P (dC, dI) clA [(s2, .inl (cI, 38, .inl stl)), (s3, .inl (cI, 38, .inl srs)), (k2, .inl (cL, 815, .inr (.inl kn))), (s0, .inr (8, [.ref k0, .long sy174, .long sn175, .int (nI k69), .ref s1, .ref s2, .int (nI sts176), .ref s3])), (s1, .inl (cL, 39, .inr (.inl ssa177))), (k0, .inr (7, [.ref k1, .ref k2, .int (nI kz), .int (nI kg)])), (k1, .inl (cL, 815, .inr (.inl ky)))] H79 := hPn
          replace hD : va_D A [(s2, .inl (cI, 38, .inl stl)), (s3, .inl (cI, 38, .inl srs)), (k2, .inl (cL, 815, .inr (.inl kn))), (s0, .inr (8, [.ref k0, .long sy174, .long sn175, .int (nI k69), .ref s1, .ref s2, .int (nI sts176), .ref s3])), (s1, .inl (cL, 39, .inr (.inl ssa177))), (k0, .inr (7, [.ref k1, .ref k2, .int (nI kz), .int (nI kg)])), (k1, .inl (cL, 815, .inr (.inl ky)))] := hDn
          replace hS := hSn
          clear hPn hDn hSn
          clear hPc hDc hFc hP1 hD1 hk1 hz1 ht9 hvm
          refine W.cs (cells' := 0) (slots' := 0) rfl rfl ?_
          have hr82 := hw80
          refine lv_if_eq (tgt := 175) hx hb d_Se_learnFrom_168 (by decide) (fun hb83 => ?_) (fun hb83 => ?_)
          · skip
            refine lv_aload_n hx hb d_Se_learnFrom_175 rfl (lv_at hl 0 rfl) ?_
            refine va_get (D := (dC, dI)) (ci := 8) (v := .ref k0) (C := "NetUnfolder$Search") (T := T_Se) (N := 8) hx hb ht in_Se hown hK hP 3 rfl rfl 0 (by decide) (ht _ wd_1_232) (fun _ h9 => h9) rfl d_Se_learnFrom_176 ?_
            refine lv_lload_n hx hb d_Se_learnFrom_179 rfl (lv_at hl 2 rfl) ?_
            refine lv_aload_n hx hb d_Se_learnFrom_180 rfl (lv_at hl 0 rfl) ?_
            refine va_get (D := (dC, dI)) (ci := 8) (v := .ref s1) (C := "NetUnfolder$Search") (T := T_Se) (N := 8) hx hb ht in_Se hown hK hP 3 rfl rfl 4 (by decide) (ht _ wd_1_236) (fun _ h9 => h9) rfl d_Se_learnFrom_181 ?_
            refine lv_iconst (v := 0) hx hb d_Se_learnFrom_184 (by decide) ?_
            refine na_lald (k := 0) hx hb hK hP 4 1 rfl rfl (by omega) (by decide) d_Se_learnFrom_185 ?_
            refine lv_ldc2 hx hb hown (ht _ wd_3_160) d_Se_learnFrom_186 ?_
            refine lv_lxor hx hb d_Se_learnFrom_189 ?_
            refine lv_land hx hb d_Se_learnFrom_190 ?_
            refine lv_lload hx hb d_Se_learnFrom_191 (lv_at hl 3 rfl) ?_
            refine lv_aload_n hx hb d_Se_learnFrom_193 rfl (lv_at hl 0 rfl) ?_
            refine va_get (D := (dC, dI)) (ci := 8) (v := .ref s1) (C := "NetUnfolder$Search") (T := T_Se) (N := 8) hx hb ht in_Se hown hK hP 3 rfl rfl 4 (by decide) (ht _ wd_1_236) (fun _ h9 => h9) rfl d_Se_learnFrom_194 ?_
            refine lv_iconst (v := 0) hx hb d_Se_learnFrom_197 (by decide) ?_
            refine na_lald (k := 0) hx hb hK hP 4 1 rfl rfl (by omega) (by decide) d_Se_learnFrom_198 ?_
            refine lv_ldc2 hx hb hown (ht _ wd_3_160) d_Se_learnFrom_199 ?_
            refine lv_lxor hx hb d_Se_learnFrom_202 ?_
            refine lv_land hx hb d_Se_learnFrom_203 ?_
            have hPc := hP.sub (ws' := [(k0, .inr (7, [.ref k1, .ref k2, .int (nI kz), .int (nI kg)])), (k1, .inl (cL, 815, .inr (.inl ky))), (k2, .inl (cL, 815, .inr (.inl kn)))]) [5, 6, 2] rfl
            have hDc := hD.sub (ws' := [(k0, .inr (7, [.ref k1, .ref k2, .int (nI kz), .int (nI kg)])), (k1, .inl (cL, 815, .inr (.inl ky))), (k2, .inl (cL, 815, .inr (.inl kn)))]) [5, 6, 2] (by decide) rfl
            have hFc := va_free (wc := [(k0, .inr (7, [.ref k1, .ref k2, .int (nI kz), .int (nI kg)])), (k1, .inl (cL, 815, .inr (.inl ky))), (k2, .inl (cL, 815, .inr (.inl kn)))]) hD hS hA [5, 6, 2] rfl
            refine va_callv (va_runV (C := "NetUnfolder$Clauses") (As := [.long (vi &&& ((ssa177 0) ^^^ (-1))), .long (vo &&& ((ssa177 0) ^^^ (-1)))]) (rest := []) ⟨hx, hb, hml, hown, ht⟩ (c_Cs_learn l dC dI cI cL cZ _ k0 k1 k2 kz kg ky kn (vi &&& ((ssa177 0) ^^^ (-1))) (vo &&& ((ssa177 0) ^^^ (-1))) (by first | assumption | omega | trivial | exact AllLt.zero | exact AllN.zero | exact AllM.zero | exact Or.inl rfl | exact Or.inr rfl) (by first | assumption | omega | trivial | exact AllLt.zero | exact AllN.zero | exact AllM.zero | exact Or.inl rfl | exact Or.inr rfl) (by first | assumption | omega | trivial | exact AllLt.zero | exact AllN.zero | exact AllM.zero | exact Or.inl rfl | exact Or.inr rfl) (by first | assumption | omega | trivial | exact AllLt.zero | exact AllN.zero | exact AllM.zero | exact Or.inl rfl | exact Or.inr rfl) (by first | assumption | omega | trivial | exact AllLt.zero | exact AllN.zero | exact AllM.zero | exact Or.inl rfl | exact Or.inr rfl) (M38.andl hvi) (M38.andl hvo)) (cwV 2 ht (good_V wd_3_195 wd_3_196 wd_3_197 wd_1_8 wd_3_198) rfl rfl rfl (by decide +kernel) ⟨Nat.le_of_ble_eq_true rfl, Nat.le_of_ble_eq_true rfl⟩) ⟨fun a U g mk q => by obtain ⟨q0, q1, qP, qK, qD, qN⟩ := q; exact ⟨q0, q1, qP, va_K.moved (u := U) (U := U.calling g mk a) (Vm.Alike.refl U.vm) qK, qD, NwA.same (u := U) rfl qN⟩, (va_recv (q0 := 5) (ci := 7) hK hP rfl rfl), fun U hU hW => ⟨rfl, by rw [hU], by rw [hU]; exact hPc, va_K.moved hW.alike hK, hDc.weaken (fun _ _ _ _ => trivial), NwA.warm hW hN⟩⟩ rfl rfl hl.1 rfl (lv_room (Nat.le_of_ble_eq_true rfl)) d_Se_learnFrom_204 ⟨Nat.le_of_ble_eq_true rfl, Nat.le_of_ble_eq_true rfl⟩) hS (fun q _ h => hFc q h) hFc (fun u9 t9 H84 locs ht9 hvm hw85 hB hz1 hk1 hSn => ?_)
            obtain ⟨kz187, ky188, kn189, hf90, hf91, hf92, hf93, hP1, hD1⟩ := hB
            rw [ht9] at hP1
            obtain ⟨hPn, hDn⟩ := va_join (wr := [(s2, .inl (cI, 38, .inl stl)), (s3, .inl (cI, 38, .inl srs)), (s0, .inr (8, [.ref k0, .long sy174, .long sn175, .int (nI k69), .ref s1, .ref s2, .int (nI sts176), .ref s3])), (s1, .inl (cL, 39, .inr (.inl ssa177)))]) (w1 := [(k0, .inr (7, [.ref k1, .ref k2, .int (nI kz187), .int (nI kg)])), (k1, .inl (cL, 815, .inr (.inl ky188))), (k2, .inl (cL, 815, .inr (.inl kn189)))]) hP hD [5, 6, 2] [0, 1, 3, 4] rfl rfl (by decide) (by decide) hk1 hFc hP1 hD1
            replace hP : va_P (dC, dI) clA [(s2, .inl (cI, 38, .inl stl)), (s3, .inl (cI, 38, .inl srs)), (s0, .inr (8, [.ref k0, .long sy174, .long sn175, .int (nI k69), .ref s1, .ref s2, .int (nI sts176), .ref s3])), (s1, .inl (cL, 39, .inr (.inl ssa177))), (k0, .inr (7, [.ref k1, .ref k2, .int (nI kz187), .int (nI kg)])), (k1, .inl (cL, 815, .inr (.inl ky188))), (k2, .inl (cL, 815, .inr (.inl kn189)))] H84 := hPn
            replace hD : va_D A [(s2, .inl (cI, 38, .inl stl)), (s3, .inl (cI, 38, .inl srs)), (s0, .inr (8, [.ref k0, .long sy174, .long sn175, .int (nI k69), .ref s1, .ref s2, .int (nI sts176), .ref s3])), (s1, .inl (cL, 39, .inr (.inl ssa177))), (k0, .inr (7, [.ref k1, .ref k2, .int (nI kz187), .int (nI kg)])), (k1, .inl (cL, 815, .inr (.inl ky188))), (k2, .inl (cL, 815, .inr (.inl kn189)))] := hDn
            replace hS := hSn
            clear hPn hDn hSn
            clear hPc hDc hFc hP1 hD1 hk1 hz1 ht9 hvm
            refine W.cs (cells' := 0) (slots' := 0) rfl rfl ?_
            have hP9 := hP.sub (ws' := [(s0, .inr (8, [.ref k0, .long sy174, .long sn175, .int (nI k69), .ref s1, .ref s2, .int (nI sts176), .ref s3])), (s1, .inl (cL, 39, .inr (.inl ssa177))), (s2, .inl (cI, 38, .inl stl)), (s3, .inl (cI, 38, .inl srs)), (k0, .inr (7, [.ref k1, .ref k2, .int (nI kz187), .int (nI kg)])), (k1, .inl (cL, 815, .inr (.inl ky188))), (k2, .inl (cL, 815, .inr (.inl kn189)))]) [2, 3, 0, 1, 4, 5, 6] rfl
            have hD9 := hD.sub (ws' := [(s0, .inr (8, [.ref k0, .long sy174, .long sn175, .int (nI k69), .ref s1, .ref s2, .int (nI sts176), .ref s3])), (s1, .inl (cL, 39, .inr (.inl ssa177))), (s2, .inl (cI, 38, .inl stl)), (s3, .inl (cI, 38, .inl srs)), (k0, .inr (7, [.ref k1, .ref k2, .int (nI kz187), .int (nI kg)])), (k1, .inl (cL, 815, .inr (.inl ky188))), (k2, .inl (cL, 815, .inr (.inl kn189)))]) [2, 3, 0, 1, 4, 5, 6] (by decide) rfl
            subst hQ
            exact W.vret hx hb hr (fun t9 ht9 hW => ⟨⟨(), rfl, trivial, sy174, sn175, k69, sts176, ssa177, srs, kz187, ky188, kn189, (by first | assumption | omega | trivial | exact AllLt.zero | exact AllN.zero | exact AllM.zero | exact Or.inl rfl | exact Or.inr rfl), (by first | assumption | omega | trivial | exact AllLt.zero | exact AllN.zero | exact AllM.zero | exact Or.inl rfl | exact Or.inr rfl), (by first | assumption | omega | trivial | exact AllLt.zero | exact AllN.zero | exact AllM.zero | exact Or.inl rfl | exact Or.inr rfl), (by first | assumption | omega | trivial | exact AllLt.zero | exact AllN.zero | exact AllM.zero | exact Or.inl rfl | exact Or.inr rfl), (by first | assumption | omega | trivial | exact AllLt.zero | exact AllN.zero | exact AllM.zero | exact Or.inl rfl | exact Or.inr rfl), (by first | assumption | omega | trivial | exact AllLt.zero | exact AllN.zero | exact AllM.zero | exact Or.inl rfl | exact Or.inr rfl), by rw [ht9]; exact hP9, hD9⟩, hS.F ht9⟩) hS.2.2 d_Se_learnFrom_207
          · skip
            refine lv_aload_n hx hb d_Se_learnFrom_171 rfl (lv_at hl 0 rfl) ?_
            have hPc := hP.sub (ws' := [(s0, .inr (8, [.ref k0, .long sy174, .long sn175, .int (nI k69), .ref s1, .ref s2, .int (nI sts176), .ref s3])), (s2, .inl (cI, 38, .inl stl)), (s3, .inl (cI, 38, .inl srs)), (k0, .inr (7, [.ref k1, .ref k2, .int (nI kz), .int (nI kg)])), (k1, .inl (cL, 815, .inr (.inl ky))), (k2, .inl (cL, 815, .inr (.inl kn)))]) [3, 0, 1, 5, 6, 2] rfl
            have hDc := hD.sub (ws' := [(s0, .inr (8, [.ref k0, .long sy174, .long sn175, .int (nI k69), .ref s1, .ref s2, .int (nI sts176), .ref s3])), (s2, .inl (cI, 38, .inl stl)), (s3, .inl (cI, 38, .inl srs)), (k0, .inr (7, [.ref k1, .ref k2, .int (nI kz), .int (nI kg)])), (k1, .inl (cL, 815, .inr (.inl ky))), (k2, .inl (cL, 815, .inr (.inl kn)))]) [3, 0, 1, 5, 6, 2] (by decide) rfl
            have hFc := va_free (wc := [(s0, .inr (8, [.ref k0, .long sy174, .long sn175, .int (nI k69), .ref s1, .ref s2, .int (nI sts176), .ref s3])), (s2, .inl (cI, 38, .inl stl)), (s3, .inl (cI, 38, .inl srs)), (k0, .inr (7, [.ref k1, .ref k2, .int (nI kz), .int (nI kg)])), (k1, .inl (cL, 815, .inr (.inl ky))), (k2, .inl (cL, 815, .inr (.inl kn)))]) hD hS hA [3, 0, 1, 5, 6, 2] rfl
            refine va_callv (va_runV (C := "NetUnfolder$Search") (As := []) (rest := []) ⟨hx, hb, hml, hown, ht⟩ (c_Se_forgetIdle l dC dI cI cL cZ _ s0 k0 s1 s2 s3 sy174 sn175 k69 sts176 stl srs k1 k2 kz kg ky kn (by first | assumption | omega | trivial | exact AllLt.zero | exact AllN.zero | exact AllM.zero | exact Or.inl rfl | exact Or.inr rfl) (by first | assumption | omega | trivial | exact AllLt.zero | exact AllN.zero | exact AllM.zero | exact Or.inl rfl | exact Or.inr rfl) (by first | assumption | omega | trivial | exact AllLt.zero | exact AllN.zero | exact AllM.zero | exact Or.inl rfl | exact Or.inr rfl) (by first | assumption | omega | trivial | exact AllLt.zero | exact AllN.zero | exact AllM.zero | exact Or.inl rfl | exact Or.inr rfl) (by first | assumption | omega | trivial | exact AllLt.zero | exact AllN.zero | exact AllM.zero | exact Or.inl rfl | exact Or.inr rfl) (by first | assumption | omega | trivial | exact AllLt.zero | exact AllN.zero | exact AllM.zero | exact Or.inl rfl | exact Or.inr rfl) (by first | assumption | omega | trivial | exact AllLt.zero | exact AllN.zero | exact AllM.zero | exact Or.inl rfl | exact Or.inr rfl) (by first | assumption | omega | trivial | exact AllLt.zero | exact AllN.zero | exact AllM.zero | exact Or.inl rfl | exact Or.inr rfl)) (cwV 0 ht (good_V wd_3_183 wd_3_185 ws_Se_forgetIdle wd_1_9 wd_3_186) rfl rfl rfl (by decide +kernel) ⟨Nat.le_of_ble_eq_true rfl, Nat.le_of_ble_eq_true rfl⟩) ⟨fun a U g mk q => by obtain ⟨q0, q1, qP, qK, qD, qN⟩ := q; exact ⟨q0, q1, qP, va_K.moved (u := U) (U := U.calling g mk a) (Vm.Alike.refl U.vm) qK, qD, NwA.same (u := U) rfl qN⟩, (va_recv (q0 := 3) (ci := 8) hK hP rfl rfl), fun U hU hW => ⟨rfl, by rw [hU], by rw [hU]; exact hPc, va_K.moved hW.alike hK, hDc.weaken (fun _ _ _ _ => trivial), NwA.warm hW hN⟩⟩ rfl rfl hl.1 rfl (lv_room (Nat.le_of_ble_eq_true rfl)) d_Se_learnFrom_172 ⟨Nat.le_of_ble_eq_true rfl, Nat.le_of_ble_eq_true rfl⟩) hS (fun q _ h => hFc q h) hFc (fun u9 t9 H94 locs ht9 hvm hw95 hB hz1 hk1 hSn => ?_)
            obtain ⟨srs197, kz198, ky199, kn1100, hf101, hf102, hf103, hf104, hf105, hP1, hD1⟩ := hB
            rw [ht9] at hP1
            obtain ⟨hPn, hDn⟩ := va_join (wr := [(s1, .inl (cL, 39, .inr (.inl ssa177)))]) (w1 := [(s0, .inr (8, [.ref k0, .long sy174, .long sn175, .int (nI k69), .ref s1, .ref s2, .int (nI sts176), .ref s3])), (s2, .inl (cI, 38, .inl stl)), (s3, .inl (cI, 38, .inl srs197)), (k0, .inr (7, [.ref k1, .ref k2, .int (nI kz198), .int (nI kg)])), (k1, .inl (cL, 815, .inr (.inl ky199))), (k2, .inl (cL, 815, .inr (.inl kn1100)))]) hP hD [3, 0, 1, 5, 6, 2] [4] rfl rfl (by decide) (by decide) hk1 hFc hP1 hD1
            replace hP : va_P (dC, dI) clA [(s1, .inl (cL, 39, .inr (.inl ssa177))), (s0, .inr (8, [.ref k0, .long sy174, .long sn175, .int (nI k69), .ref s1, .ref s2, .int (nI sts176), .ref s3])), (s2, .inl (cI, 38, .inl stl)), (s3, .inl (cI, 38, .inl srs197)), (k0, .inr (7, [.ref k1, .ref k2, .int (nI kz198), .int (nI kg)])), (k1, .inl (cL, 815, .inr (.inl ky199))), (k2, .inl (cL, 815, .inr (.inl kn1100)))] H94 := hPn
            replace hD : va_D A [(s1, .inl (cL, 39, .inr (.inl ssa177))), (s0, .inr (8, [.ref k0, .long sy174, .long sn175, .int (nI k69), .ref s1, .ref s2, .int (nI sts176), .ref s3])), (s2, .inl (cI, 38, .inl stl)), (s3, .inl (cI, 38, .inl srs197)), (k0, .inr (7, [.ref k1, .ref k2, .int (nI kz198), .int (nI kg)])), (k1, .inl (cL, 815, .inr (.inl ky199))), (k2, .inl (cL, 815, .inr (.inl kn1100)))] := hDn
            replace hS := hSn
            clear hPn hDn hSn
            clear hPc hDc hFc hP1 hD1 hk1 hz1 ht9 hvm
            refine W.cs (cells' := 0) (slots' := 0) rfl rfl ?_
            refine lv_aload_n hx hb d_Se_learnFrom_175 rfl (lv_at hl 0 rfl) ?_
            refine va_get (D := (dC, dI)) (ci := 8) (v := .ref k0) (C := "NetUnfolder$Search") (T := T_Se) (N := 8) hx hb ht in_Se hown hK hP 1 rfl rfl 0 (by decide) (ht _ wd_1_232) (fun _ h9 => h9) rfl d_Se_learnFrom_176 ?_
            refine lv_lload_n hx hb d_Se_learnFrom_179 rfl (lv_at hl 2 rfl) ?_
            refine lv_aload_n hx hb d_Se_learnFrom_180 rfl (lv_at hl 0 rfl) ?_
            refine va_get (D := (dC, dI)) (ci := 8) (v := .ref s1) (C := "NetUnfolder$Search") (T := T_Se) (N := 8) hx hb ht in_Se hown hK hP 1 rfl rfl 4 (by decide) (ht _ wd_1_236) (fun _ h9 => h9) rfl d_Se_learnFrom_181 ?_
            refine lv_iconst (v := 0) hx hb d_Se_learnFrom_184 (by decide) ?_
            refine na_lald (k := 0) hx hb hK hP 0 1 rfl rfl (by omega) (by decide) d_Se_learnFrom_185 ?_
            refine lv_ldc2 hx hb hown (ht _ wd_3_160) d_Se_learnFrom_186 ?_
            refine lv_lxor hx hb d_Se_learnFrom_189 ?_
            refine lv_land hx hb d_Se_learnFrom_190 ?_
            refine lv_lload hx hb d_Se_learnFrom_191 (lv_at hl 3 rfl) ?_
            refine lv_aload_n hx hb d_Se_learnFrom_193 rfl (lv_at hl 0 rfl) ?_
            refine va_get (D := (dC, dI)) (ci := 8) (v := .ref s1) (C := "NetUnfolder$Search") (T := T_Se) (N := 8) hx hb ht in_Se hown hK hP 1 rfl rfl 4 (by decide) (ht _ wd_1_236) (fun _ h9 => h9) rfl d_Se_learnFrom_194 ?_
            refine lv_iconst (v := 0) hx hb d_Se_learnFrom_197 (by decide) ?_
            refine na_lald (k := 0) hx hb hK hP 0 1 rfl rfl (by omega) (by decide) d_Se_learnFrom_198 ?_
            refine lv_ldc2 hx hb hown (ht _ wd_3_160) d_Se_learnFrom_199 ?_
            refine lv_lxor hx hb d_Se_learnFrom_202 ?_
            refine lv_land hx hb d_Se_learnFrom_203 ?_
            have hPc := hP.sub (ws' := [(k0, .inr (7, [.ref k1, .ref k2, .int (nI kz198), .int (nI kg)])), (k1, .inl (cL, 815, .inr (.inl ky199))), (k2, .inl (cL, 815, .inr (.inl kn1100)))]) [4, 5, 6] rfl
            have hDc := hD.sub (ws' := [(k0, .inr (7, [.ref k1, .ref k2, .int (nI kz198), .int (nI kg)])), (k1, .inl (cL, 815, .inr (.inl ky199))), (k2, .inl (cL, 815, .inr (.inl kn1100)))]) [4, 5, 6] (by decide) rfl
            have hFc := va_free (wc := [(k0, .inr (7, [.ref k1, .ref k2, .int (nI kz198), .int (nI kg)])), (k1, .inl (cL, 815, .inr (.inl ky199))), (k2, .inl (cL, 815, .inr (.inl kn1100)))]) hD hS hA [4, 5, 6] rfl
            refine va_callv (va_runV (C := "NetUnfolder$Clauses") (As := [.long (vi &&& ((ssa177 0) ^^^ (-1))), .long (vo &&& ((ssa177 0) ^^^ (-1)))]) (rest := []) ⟨hx, hb, hml, hown, ht⟩ (c_Cs_learn l dC dI cI cL cZ _ k0 k1 k2 kz198 kg ky199 kn1100 (vi &&& ((ssa177 0) ^^^ (-1))) (vo &&& ((ssa177 0) ^^^ (-1))) (by first | assumption | omega | trivial | exact AllLt.zero | exact AllN.zero | exact AllM.zero | exact Or.inl rfl | exact Or.inr rfl) (by first | assumption | omega | trivial | exact AllLt.zero | exact AllN.zero | exact AllM.zero | exact Or.inl rfl | exact Or.inr rfl) (by first | assumption | omega | trivial | exact AllLt.zero | exact AllN.zero | exact AllM.zero | exact Or.inl rfl | exact Or.inr rfl) (by first | assumption | omega | trivial | exact AllLt.zero | exact AllN.zero | exact AllM.zero | exact Or.inl rfl | exact Or.inr rfl) (by first | assumption | omega | trivial | exact AllLt.zero | exact AllN.zero | exact AllM.zero | exact Or.inl rfl | exact Or.inr rfl) (M38.andl hvi) (M38.andl hvo)) (cwV 2 ht (good_V wd_3_195 wd_3_196 wd_3_197 wd_1_8 wd_3_198) rfl rfl rfl (by decide +kernel) ⟨Nat.le_of_ble_eq_true rfl, Nat.le_of_ble_eq_true rfl⟩) ⟨fun a U g mk q => by obtain ⟨q0, q1, qP, qK, qD, qN⟩ := q; exact ⟨q0, q1, qP, va_K.moved (u := U) (U := U.calling g mk a) (Vm.Alike.refl U.vm) qK, qD, NwA.same (u := U) rfl qN⟩, (va_recv (q0 := 4) (ci := 7) hK hP rfl rfl), fun U hU hW => ⟨rfl, by rw [hU], by rw [hU]; exact hPc, va_K.moved hW.alike hK, hDc.weaken (fun _ _ _ _ => trivial), NwA.warm hW hN⟩⟩ rfl rfl hl.1 rfl (lv_room (Nat.le_of_ble_eq_true rfl)) d_Se_learnFrom_204 ⟨Nat.le_of_ble_eq_true rfl, Nat.le_of_ble_eq_true rfl⟩) hS (fun q _ h => hFc q h) hFc (fun u9 t9 H106 locs ht9 hvm hw107 hB hz1 hk1 hSn => ?_)
            obtain ⟨kz1109, ky1110, kn1111, hf112, hf113, hf114, hf115, hP1, hD1⟩ := hB
            rw [ht9] at hP1
            obtain ⟨hPn, hDn⟩ := va_join (wr := [(s1, .inl (cL, 39, .inr (.inl ssa177))), (s0, .inr (8, [.ref k0, .long sy174, .long sn175, .int (nI k69), .ref s1, .ref s2, .int (nI sts176), .ref s3])), (s2, .inl (cI, 38, .inl stl)), (s3, .inl (cI, 38, .inl srs197))]) (w1 := [(k0, .inr (7, [.ref k1, .ref k2, .int (nI kz1109), .int (nI kg)])), (k1, .inl (cL, 815, .inr (.inl ky1110))), (k2, .inl (cL, 815, .inr (.inl kn1111)))]) hP hD [4, 5, 6] [0, 1, 2, 3] rfl rfl (by decide) (by decide) hk1 hFc hP1 hD1
            replace hP : va_P (dC, dI) clA [(s1, .inl (cL, 39, .inr (.inl ssa177))), (s0, .inr (8, [.ref k0, .long sy174, .long sn175, .int (nI k69), .ref s1, .ref s2, .int (nI sts176), .ref s3])), (s2, .inl (cI, 38, .inl stl)), (s3, .inl (cI, 38, .inl srs197)), (k0, .inr (7, [.ref k1, .ref k2, .int (nI kz1109), .int (nI kg)])), (k1, .inl (cL, 815, .inr (.inl ky1110))), (k2, .inl (cL, 815, .inr (.inl kn1111)))] H106 := hPn
            replace hD : va_D A [(s1, .inl (cL, 39, .inr (.inl ssa177))), (s0, .inr (8, [.ref k0, .long sy174, .long sn175, .int (nI k69), .ref s1, .ref s2, .int (nI sts176), .ref s3])), (s2, .inl (cI, 38, .inl stl)), (s3, .inl (cI, 38, .inl srs197)), (k0, .inr (7, [.ref k1, .ref k2, .int (nI kz1109), .int (nI kg)])), (k1, .inl (cL, 815, .inr (.inl ky1110))), (k2, .inl (cL, 815, .inr (.inl kn1111)))] := hDn
            replace hS := hSn
            clear hPn hDn hSn
            clear hPc hDc hFc hP1 hD1 hk1 hz1 ht9 hvm
            refine W.cs (cells' := 0) (slots' := 0) rfl rfl ?_
            have hP9 := hP.sub (ws' := [(s0, .inr (8, [.ref k0, .long sy174, .long sn175, .int (nI k69), .ref s1, .ref s2, .int (nI sts176), .ref s3])), (s1, .inl (cL, 39, .inr (.inl ssa177))), (s2, .inl (cI, 38, .inl stl)), (s3, .inl (cI, 38, .inl srs197)), (k0, .inr (7, [.ref k1, .ref k2, .int (nI kz1109), .int (nI kg)])), (k1, .inl (cL, 815, .inr (.inl ky1110))), (k2, .inl (cL, 815, .inr (.inl kn1111)))]) [1, 0, 2, 3, 4, 5, 6] rfl
            have hD9 := hD.sub (ws' := [(s0, .inr (8, [.ref k0, .long sy174, .long sn175, .int (nI k69), .ref s1, .ref s2, .int (nI sts176), .ref s3])), (s1, .inl (cL, 39, .inr (.inl ssa177))), (s2, .inl (cI, 38, .inl stl)), (s3, .inl (cI, 38, .inl srs197)), (k0, .inr (7, [.ref k1, .ref k2, .int (nI kz1109), .int (nI kg)])), (k1, .inl (cL, 815, .inr (.inl ky1110))), (k2, .inl (cL, 815, .inr (.inl kn1111)))]) [1, 0, 2, 3, 4, 5, 6] (by decide) rfl
            subst hQ
            exact W.vret hx hb hr (fun t9 ht9 hW => ⟨⟨(), rfl, trivial, sy174, sn175, k69, sts176, ssa177, srs197, kz1109, ky1110, kn1111, (by first | assumption | omega | trivial | exact AllLt.zero | exact AllN.zero | exact AllM.zero | exact Or.inl rfl | exact Or.inr rfl), (by first | assumption | omega | trivial | exact AllLt.zero | exact AllN.zero | exact AllM.zero | exact Or.inl rfl | exact Or.inr rfl), (by first | assumption | omega | trivial | exact AllLt.zero | exact AllN.zero | exact AllM.zero | exact Or.inl rfl | exact Or.inr rfl), (by first | assumption | omega | trivial | exact AllLt.zero | exact AllN.zero | exact AllM.zero | exact Or.inl rfl | exact Or.inr rfl), (by first | assumption | omega | trivial | exact AllLt.zero | exact AllN.zero | exact AllM.zero | exact Or.inl rfl | exact Or.inr rfl), (by first | assumption | omega | trivial | exact AllLt.zero | exact AllN.zero | exact AllM.zero | exact Or.inl rfl | exact Or.inr rfl), by rw [ht9]; exact hP9, hD9⟩, hS.F ht9⟩) hS.2.2 d_Se_learnFrom_207
  exact hloop1 (sts + 1) sts (nI (sts - 1)) (ky br) (kn br) (KvI.of (by omega) (by omega)) (hky br (by omega)) (hkn br (by omega)) _ _ ls (lv_sub hl [3, 4, 2, 1, 0] rfl) hP hD hS (Nat.lt_succ_self _)
