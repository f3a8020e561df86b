set_option maxHeartbeats 4000000 in
set_option maxRecDepth 100000 in
theorem c_Cs_isFull (l : Launch) (dC : Nat → ClassId) (dI : Nat → Nat → Nat) (cI cL cZ : ClassId) (sz : Nat) (k0 : Nat) (k1 : Nat) (k2 : Nat) (kz : Nat) (kg : Nat) (ky : Nat → Int64) (hgz : kg ≤ kz) (hkz : kz ≤ 815) : Met l y_Cs_isFull (Cond.code y_Cs_isFull prog_2_method_3_code 1 (some .boolean) :: wsA) { frames := 0, cells := 0, slots := 0, locals := 0 } (va_Pc [.ref k0] (fun U => U.heap.size = sz ∧ va_P (dC, dI) clA [(k0, .inr (7, [.ref k1, .ref k2, .int (nI kz), .int (nI kg)])), (k1, .inl (cL, 815, .inr (.inl ky)))] U.heap ∧ va_K (dC, dI) clA [(cI, .int), (cL, .long), (cZ, .boolean)] U ∧ va_D (fun _ => True) [(k0, .inr (7, [.ref k1, .ref k2, .int (nI kz), .int (nI kg)])), (k1, .inl (cL, 815, .inr (.inl ky)))] ∧ NwA U)) (va_Qi (fun r (_ : Unit) => (r = 1 ∨ (r = 0 ∧ kz < 815))) (fun _ t => va_P (dC, dI) clA [(k0, .inr (7, [.ref k1, .ref k2, .int (nI kz), .int (nI kg)])), (k1, .inl (cL, 815, .inr (.inl ky)))] t.heap ∧ va_D (va_A [(k0, .inr (7, [.ref k1, .ref k2, .int (nI kz), .int (nI kg)])), (k1, .inl (cL, 815, .inr (.inl ky)))] sz) [(k0, .inr (7, [.ref k1, .ref k2, .int (nI kz), .int (nI kg)])), (k1, .inl (cL, 815, .inr (.inl ky)))]) (va_A [(k0, .inr (7, [.ref k1, .ref k2, .int (nI kz), .int (nI kg)])), (k1, .inl (cL, 815, .inr (.inl ky)))] sz)) 0 0 (va_A [(k0, .inr (7, [.ref k1, .ref k2, .int (nI kz), .int (nI kg)])), (k1, .inl (cL, 815, .inr (.inl ky)))] sz) := by
  refine Met.ofW (cc := prog_2_method_3_code) (maxL := 1) (ret := (some .boolean)) (by decide) rfl ?_
  intro p e s m args below meth c s₁ B hml hv
  obtain ⟨rfl, hsz, hP, hK, hD0, hN⟩ := hv
  have hx := B.exec
  have hb := B.bytes
  have hr := B.returns
  have ht : ∀ w ∈ wsA, w.before _ s = true := fun w h => atoms_spec (ws := (Cond.code y_Cs_isFull prog_2_method_3_code 1 (some .boolean) :: wsA)) B.pre w (List.mem_cons_of_mem _ h)
  have hown : s.vm.findClass "NetUnfolder$Clauses" = some m.cls := findClass_of_methodNamed B.named
  have hlocks := B.notSynchronized
  subst hsz
  have hD := hD0.self (sz := s.heap.size)
  generalize hAe : va_A [(k0, .inr (7, [.ref k1, .ref k2, .int (nI kz), .int (nI kg)])), (k1, .inl (cL, 815, .inr (.inl ky)))] s.heap.size = A at hD ⊢
  have hA : ∀ q : Nat, s.heap.size ≤ q → A q := fun q h => by rw [← hAe]; exact Or.inr h
  have hS : va_S A s.heap s.heap [] := va_S.rf
  have hl := lv_entry ([.ref k0]) (n := 1) (Nat.le_of_ble_eq_true rfl)
  rw [lg_entry_eq]
  generalize (lg_sl ([.ref k0]) ++ List.replicate (1 - (lg_sl ([.ref k0])).length) Slot.unset).toArray = ls at hl ⊢
  replace hl : lv_has ls 1 [(0, .ref k0)] := hl
  refine W_Q (fun Q hQ => ?_)
  refine lv_aload_n hx hb d_Cs_isFull_0 rfl (lv_at hl 0 rfl) ?_
  refine va_get (D := (dC, dI)) (ci := 7) (v := .int (nI kz)) (C := "NetUnfolder$Clauses") (T := T_Cs) (N := 4) hx hb ht in_Cs hown hK hP 0 rfl rfl 2 (by decide) (ht _ wd_1_213) (fun _ h9 => h9) rfl d_Cs_isFull_1 ?_
  refine lv_aload_n hx hb d_Cs_isFull_4 rfl (lv_at hl 0 rfl) ?_
  refine va_get (D := (dC, dI)) (ci := 7) (v := .ref k1) (C := "NetUnfolder$Clauses") (T := T_Cs) (N := 4) hx hb ht in_Cs hown hK hP 0 rfl rfl 0 (by decide) (ht _ wd_1_209) (fun _ h9 => h9) rfl d_Cs_isFull_5 ?_
  refine va_alen hx hb hK hP 1 1 rfl rfl (v := 815) rfl d_Cs_isFull_8 ?_
  refine lv_icmp_ge (tgt := 26) hx hb d_Cs_isFull_9 (by decide) (fun hb1 => ?_) (fun hb1 => ?_)
  · skip
    replace hb1 := cv_le (a := 815) (b := kz) (by omega) (by omega) hb1
    refine lv_iconst (v := 1) hx hb d_Cs_isFull_26 (by decide) ?_
    refine lv_goto (tgt := 31) hx hb d_Cs_isFull_27 (by decide) ?_
    have hP9 := hP.sub (ws' := [(k0, .inr (7, [.ref k1, .ref k2, .int (nI kz), .int (nI kg)])), (k1, .inl (cL, 815, .inr (.inl ky)))]) [0, 1] rfl
    have hD9 := hD.sub (ws' := [(k0, .inr (7, [.ref k1, .ref k2, .int (nI kz), .int (nI kg)])), (k1, .inl (cL, 815, .inr (.inl ky)))]) [0, 1] (by decide) rfl
    subst hQ
    exact W.zret (v := 1) hx hb hr rfl (fun t9 ht9 hW => ⟨⟨1, (), rfl, (Or.inl rfl), by rw [ht9]; exact hP9, hD9⟩, hS.F ht9⟩) hS.2.2 d_Cs_isFull_31
  · skip
    replace hb1 := cv_nle (a := 815) (b := kz) (by omega) (by omega) hb1
    refine lv_aload_n hx hb d_Cs_isFull_12 rfl (lv_at hl 0 rfl) ?_
    refine va_get (D := (dC, dI)) (ci := 7) (v := .int (nI kz)) (C := "NetUnfolder$Clauses") (T := T_Cs) (N := 4) hx hb ht in_Cs hown hK hP 0 rfl rfl 2 (by decide) (ht _ wd_1_213) (fun _ h9 => h9) rfl d_Cs_isFull_13 ?_
    refine lv_aload_n hx hb d_Cs_isFull_16 rfl (lv_at hl 0 rfl) ?_
    refine va_get (D := (dC, dI)) (ci := 7) (v := .int (nI kg)) (C := "NetUnfolder$Clauses") (T := T_Cs) (N := 4) hx hb ht in_Cs hown hK hP 0 rfl rfl 3 (by decide) (ht _ wd_1_215) (fun _ h9 => h9) rfl d_Cs_isFull_17 ?_
    refine lv_isub hx hb d_Cs_isFull_20 ?_
    refine ci_i (y := nI (kz - kg)) (cv_sub (a := kz) (b := kg) (by omega)) ?_
    refine lv_bipush (v := 64) hx hb d_Cs_isFull_21 (by decide) ?_
    refine lv_icmp_lt (tgt := 30) hx hb d_Cs_isFull_23 (by decide) (fun hb2 => ?_) (fun hb2 => ?_)
    · skip
      replace hb2 := cv_lt (a := kz - kg) (b := 64) (by omega) (by omega) hb2
      refine lv_iconst (v := 0) hx hb d_Cs_isFull_30 (by decide) ?_
      have hP9 := hP.sub (ws' := [(k0, .inr (7, [.ref k1, .ref k2, .int (nI kz), .int (nI kg)])), (k1, .inl (cL, 815, .inr (.inl ky)))]) [0, 1] rfl
      have hD9 := hD.sub (ws' := [(k0, .inr (7, [.ref k1, .ref k2, .int (nI kz), .int (nI kg)])), (k1, .inl (cL, 815, .inr (.inl ky)))]) [0, 1] (by decide) rfl
      subst hQ
      exact W.zret (v := 0) hx hb hr rfl (fun t9 ht9 hW => ⟨⟨0, (), rfl, (Or.inr ⟨rfl, by omega⟩), by rw [ht9]; exact hP9, hD9⟩, hS.F ht9⟩) hS.2.2 d_Cs_isFull_31
    · skip
      replace hb2 := cv_nlt (a := kz - kg) (b := 64) (by omega) (by omega) hb2
      refine lv_iconst (v := 1) hx hb d_Cs_isFull_26 (by decide) ?_
      refine lv_goto (tgt := 31) hx hb d_Cs_isFull_27 (by decide) ?_
      have hP9 := hP.sub (ws' := [(k0, .inr (7, [.ref k1, .ref k2, .int (nI kz), .int (nI kg)])), (k1, .inl (cL, 815, .inr (.inl ky)))]) [0, 1] rfl
      have hD9 := hD.sub (ws' := [(k0, .inr (7, [.ref k1, .ref k2, .int (nI kz), .int (nI kg)])), (k1, .inl (cL, 815, .inr (.inl ky)))]) [0, 1] (by decide) rfl
      subst hQ
      exact W.zret (v := 1) hx hb hr rfl (fun t9 ht9 hW => ⟨⟨1, (), rfl, (Or.inl rfl), by rw [ht9]; exact hP9, hD9⟩, hS.F ht9⟩) hS.2.2 d_Cs_isFull_31

set_option maxHeartbeats 4000000 in
set_option maxRecDepth 100000 in
theorem c_Cs_learn (l : Launch) (dC : Nat → ClassId) (dI : Nat → Nat → Nat) (cI cL cZ : ClassId) (sz : Nat) (k0 : Nat) (k1 : Nat) (k2 : Nat) (kz : Nat) (kg : Nat) (ky : Nat → Int64) (kn : Nat → Int64) (x : Int64) (y : Int64) (hgz : kg ≤ kz) (hkz : kz ≤ 815) (hkg : kg ≤ 751) (hky : AllM ky 815) (hkn : AllM kn 815) (hx1 : M38 x) (hy1 : M38 y) : Met l y_Cs_learn (Cond.code y_Cs_learn prog_2_method_5_code 5 none :: wsA) { frames := 1, cells := 0, slots := 0, locals := 20 } (va_Pc [.ref k0, .long x, .long y] (fun U => U.heap.size = sz ∧ va_P (dC, dI) clA [(k0, .inr (7, [.ref k1, .ref k2, .int (nI kz), .int (nI kg)])), (k1, .inl (cL, 815, .inr (.inl ky))), (k2, .inl (cL, 815, .inr (.inl kn)))] U.heap ∧ va_K (dC, dI) clA [(cI, .int), (cL, .long), (cZ, .boolean)] U ∧ va_D (fun _ => True) [(k0, .inr (7, [.ref k1, .ref k2, .int (nI kz), .int (nI kg)])), (k1, .inl (cL, 815, .inr (.inl ky))), (k2, .inl (cL, 815, .inr (.inl kn)))] ∧ NwA U)) (va_Qv (fun _ : Unit => True) (fun _ t => ∃ (kz1 : Nat), ∃ (ky1 : Nat → Int64), ∃ (kn1 : Nat → Int64), (kg ≤ kz1) ∧ (kz1 ≤ 815) ∧ (AllM ky1 815) ∧ (AllM kn1 815) ∧ va_P (dC, dI) clA [(k0, .inr (7, [.ref k1, .ref k2, .int (nI kz1), .int (nI kg)])), (k1, .inl (cL, 815, .inr (.inl ky1))), (k2, .inl (cL, 815, .inr (.inl kn1)))] t.heap ∧ va_D (va_A [(k0, .inr (7, [.ref k1, .ref k2, .int (nI kz), .int (nI kg)])), (k1, .inl (cL, 815, .inr (.inl ky))), (k2, .inl (cL, 815, .inr (.inl kn)))] sz) [(k0, .inr (7, [.ref k1, .ref k2, .int (nI kz1), .int (nI kg)])), (k1, .inl (cL, 815, .inr (.inl ky1))), (k2, .inl (cL, 815, .inr (.inl kn1)))]) (va_A [(k0, .inr (7, [.ref k1, .ref k2, .int (nI kz), .int (nI kg)])), (k1, .inl (cL, 815, .inr (.inl ky))), (k2, .inl (cL, 815, .inr (.inl kn)))] sz)) 0 0 (va_A [(k0, .inr (7, [.ref k1, .ref k2, .int (nI kz), .int (nI kg)])), (k1, .inl (cL, 815, .inr (.inl ky))), (k2, .inl (cL, 815, .inr (.inl kn)))] sz) := by
  refine Met.ofW (cc := prog_2_method_5_code) (maxL := 5) (ret := none) (by decide) rfl ?_
  intro p e s m args below meth c s₁ B hml hv
  obtain ⟨rfl, hsz, hP, hK, hD0, hN⟩ := hv
  have hx := B.exec
  have hb := B.bytes
  have hr := B.returns
  have ht : ∀ w ∈ wsA, w.before _ s = true := fun w h => atoms_spec (ws := (Cond.code y_Cs_learn prog_2_method_5_code 5 none :: wsA)) B.pre w (List.mem_cons_of_mem _ h)
  have hown : s.vm.findClass "NetUnfolder$Clauses" = some m.cls := findClass_of_methodNamed B.named
  have hlocks := B.notSynchronized
  subst hsz
  have hD := hD0.self (sz := s.heap.size)
  generalize hAe : va_A [(k0, .inr (7, [.ref k1, .ref k2, .int (nI kz), .int (nI kg)])), (k1, .inl (cL, 815, .inr (.inl ky))), (k2, .inl (cL, 815, .inr (.inl kn)))] s.heap.size = A at hD ⊢
  have hA : ∀ q : Nat, s.heap.size ≤ q → A q := fun q h => by rw [← hAe]; exact Or.inr h
  have hS : va_S A s.heap s.heap [] := va_S.rf
  have hl := lv_entry ([.ref k0, .long x, .long y]) (n := 5) (Nat.le_of_ble_eq_true rfl)
  rw [lg_entry_eq]
  generalize (lg_sl ([.ref k0, .long x, .long y]) ++ List.replicate (5 - (lg_sl ([.ref k0, .long x, .long y])).length) Slot.unset).toArray = ls at hl ⊢
  replace hl : lv_has ls 5 [(0, .ref k0), (1, .long x), (3, .long y)] := hl
  refine W_Q (fun Q hQ => ?_)
  refine lv_aload_n hx hb d_Cs_learn_0 rfl (lv_at hl 0 rfl) ?_
  have hPc := hP.sub (ws' := [(k0, .inr (7, [.ref k1, .ref k2, .int (nI kz), .int (nI kg)])), (k1, .inl (cL, 815, .inr (.inl ky)))]) [0, 1] rfl
  have hDc := hD.sub (ws' := [(k0, .inr (7, [.ref k1, .ref k2, .int (nI kz), .int (nI kg)])), (k1, .inl (cL, 815, .inr (.inl ky)))]) [0, 1] (by decide) rfl
  have hFc := va_free (wc := [(k0, .inr (7, [.ref k1, .ref k2, .int (nI kz), .int (nI kg)])), (k1, .inl (cL, 815, .inr (.inl ky)))]) hD hS hA [0, 1] rfl
  refine va_calli (va_runV (C := "NetUnfolder$Clauses") (As := []) (rest := []) ⟨hx, hb, hml, hown, ht⟩ (c_Cs_isFull l dC dI cI cL cZ _ k0 k1 k2 kz kg ky (by first | assumption | omega | trivial | exact AllLt.zero | exact AllN.zero | exact AllM.zero | exact Or.inl rfl | exact Or.inr rfl) (by first | assumption | omega | trivial | exact AllLt.zero | exact AllN.zero | exact AllM.zero | exact Or.inl rfl | exact Or.inr rfl)) (cwV 0 ht (good_V wd_3_199 wd_3_180 wd_3_181 wd_1_8 wd_3_182) rfl rfl rfl (by decide +kernel) ⟨Nat.le_of_ble_eq_true rfl, Nat.le_of_ble_eq_true rfl⟩) ⟨fun a U g mk q => by obtain ⟨q0, q1, qP, qK, qD, qN⟩ := q; exact ⟨q0, q1, qP, va_K.moved (u := U) (U := U.calling g mk a) (Vm.Alike.refl U.vm) qK, qD, NwA.same (u := U) rfl qN⟩, (va_recv (q0 := 0) (ci := 7) hK hP rfl rfl), fun U hU hW => ⟨rfl, by rw [hU], by rw [hU]; exact hPc, va_K.moved hW.alike hK, hDc.weaken (fun _ _ _ _ => trivial), NwA.warm hW hN⟩⟩ rfl rfl hl.1 rfl (lv_room (Nat.le_of_ble_eq_true rfl)) d_Cs_learn_1 ⟨Nat.le_of_ble_eq_true rfl, Nat.le_of_ble_eq_true rfl⟩) hS (fun q _ h => hFc q h) hFc (fun r3 u9 t9 H1 locs ht9 hvm hw2 hB hz1 hk1 hSn => ?_)
  obtain ⟨hP1, hD1⟩ := hB
  rw [ht9] at hP1
  obtain ⟨hPn, hDn⟩ := va_join (wr := [(k2, .inl (cL, 815, .inr (.inl kn)))]) (w1 := [(k0, .inr (7, [.ref k1, .ref k2, .int (nI kz), .int (nI kg)])), (k1, .inl (cL, 815, .inr (.inl ky)))]) hP hD [0, 1] [2] rfl rfl (by decide) (by decide) hk1 hFc hP1 hD1
  replace hP : va_P (dC, dI) clA [(k2, .inl (cL, 815, .inr (.inl kn))), (k0, .inr (7, [.ref k1, .ref k2, .int (nI kz), .int (nI kg)])), (k1, .inl (cL, 815, .inr (.inl ky)))] H1 := hPn
  replace hD : va_D A [(k2, .inl (cL, 815, .inr (.inl kn))), (k0, .inr (7, [.ref k1, .ref k2, .int (nI kz), .int (nI kg)])), (k1, .inl (cL, 815, .inr (.inl ky)))] := hDn
  replace hS := hSn
  clear hPn hDn hSn
  clear hPc hDc hFc hP1 hD1 hk1 hz1 ht9 hvm
  refine W.cs (cells' := 0) (slots' := 0) rfl rfl ?_
  have hr4 := hw2
  refine lv_if_ne (tgt := 37) hx hb d_Cs_learn_4 (by decide) (fun hb5 => ?_) (fun hb5 => ?_)
  · skip
    have hP9 := hP.sub (ws' := [(k0, .inr (7, [.ref k1, .ref k2, .int (nI kz), .int (nI kg)])), (k1, .inl (cL, 815, .inr (.inl ky))), (k2, .inl (cL, 815, .inr (.inl kn)))]) [1, 2, 0] rfl
    have hD9 := hD.sub (ws' := [(k0, .inr (7, [.ref k1, .ref k2, .int (nI kz), .int (nI kg)])), (k1, .inl (cL, 815, .inr (.inl ky))), (k2, .inl (cL, 815, .inr (.inl kn)))]) [1, 2, 0] (by decide) rfl
    subst hQ
    exact W.vret hx hb hr (fun t9 ht9 hW => ⟨⟨(), rfl, trivial, kz, ky, kn, (by first | assumption | omega | trivial | exact AllLt.zero | exact AllN.zero | exact AllM.zero | exact Or.inl rfl | exact Or.inr rfl), (by first | assumption | omega | trivial | exact AllLt.zero | exact AllN.zero | exact AllM.zero | exact Or.inl rfl | exact Or.inr rfl), (by first | assumption | exact AllM.put hky hx1), (by first | assumption | exact AllM.put hkn hy1), by rw [ht9]; exact hP9, hD9⟩, hS.F ht9⟩) hS.2.2 d_Cs_learn_37
  · skip
    have hb5_z := (hr4.resolve_left (by rw [hb5]; decide)).2
    refine lv_aload_n hx hb d_Cs_learn_7 rfl (lv_at hl 0 rfl) ?_
    refine va_get (D := (dC, dI)) (ci := 7) (v := .ref k1) (C := "NetUnfolder$Clauses") (T := T_Cs) (N := 4) hx hb ht in_Cs hown hK hP 1 rfl rfl 0 (by decide) (ht _ wd_1_209) (fun _ h9 => h9) rfl d_Cs_learn_8 ?_
    refine lv_aload_n hx hb d_Cs_learn_11 rfl (lv_at hl 0 rfl) ?_
    refine va_get (D := (dC, dI)) (ci := 7) (v := .int (nI kz)) (C := "NetUnfolder$Clauses") (T := T_Cs) (N := 4) hx hb ht in_Cs hown hK hP 1 rfl rfl 2 (by decide) (ht _ wd_1_213) (fun _ h9 => h9) rfl d_Cs_learn_12 ?_
    refine lv_lload_n hx hb d_Cs_learn_15 rfl (lv_at hl 1 rfl) ?_
    refine na_last (k := kz) hx hb hK hP hD hS 2 1 rfl rfl (by omega) (by decide) d_Cs_learn_16 (fun H6 locs hPn hDn hSn => ?_)
    replace hP : va_P (dC, dI) clA [(k2, .inl (cL, 815, .inr (.inl kn))), (k0, .inr (7, [.ref k1, .ref k2, .int (nI kz), .int (nI kg)])), (k1, .inl (cL, 815, .inr (.inl (vp_updL ky kz x))))] H6 := hPn
    replace hD : va_D A [(k2, .inl (cL, 815, .inr (.inl kn))), (k0, .inr (7, [.ref k1, .ref k2, .int (nI kz), .int (nI kg)])), (k1, .inl (cL, 815, .inr (.inl (vp_updL ky kz x))))] := hDn
    replace hS := hSn
    clear hPn hDn hSn
    refine lv_aload_n hx hb d_Cs_learn_17 rfl (lv_at hl 0 rfl) ?_
    refine va_get (D := (dC, dI)) (ci := 7) (v := .ref k2) (C := "NetUnfolder$Clauses") (T := T_Cs) (N := 4) hx hb ht in_Cs hown hK hP 1 rfl rfl 1 (by decide) (ht _ wd_1_211) (fun _ h9 => h9) rfl d_Cs_learn_18 ?_
    refine lv_aload_n hx hb d_Cs_learn_21 rfl (lv_at hl 0 rfl) ?_
    refine va_get (D := (dC, dI)) (ci := 7) (v := .int (nI kz)) (C := "NetUnfolder$Clauses") (T := T_Cs) (N := 4) hx hb ht in_Cs hown hK hP 1 rfl rfl 2 (by decide) (ht _ wd_1_213) (fun _ h9 => h9) rfl d_Cs_learn_22 ?_
    refine lv_lload_n hx hb d_Cs_learn_25 rfl (lv_at hl 2 rfl) ?_
    refine na_last (k := kz) hx hb hK hP hD hS 0 1 rfl rfl (by omega) (by decide) d_Cs_learn_26 (fun H7 locs hPn hDn hSn => ?_)
    replace hP : va_P (dC, dI) clA [(k2, .inl (cL, 815, .inr (.inl (vp_updL kn kz y)))), (k0, .inr (7, [.ref k1, .ref k2, .int (nI kz), .int (nI kg)])), (k1, .inl (cL, 815, .inr (.inl (vp_updL ky kz x))))] H7 := hPn
    replace hD : va_D A [(k2, .inl (cL, 815, .inr (.inl (vp_updL kn kz y)))), (k0, .inr (7, [.ref k1, .ref k2, .int (nI kz), .int (nI kg)])), (k1, .inl (cL, 815, .inr (.inl (vp_updL ky kz x))))] := hDn
    replace hS := hSn
    clear hPn hDn hSn
    refine lv_aload_n hx hb d_Cs_learn_27 rfl (lv_at hl 0 rfl) ?_
    refine lv_dup hx hb d_Cs_learn_28 rfl ?_
    refine va_get (D := (dC, dI)) (ci := 7) (v := .int (nI kz)) (C := "NetUnfolder$Clauses") (T := T_Cs) (N := 4) hx hb ht in_Cs hown hK hP 1 rfl rfl 2 (by decide) (ht _ wd_1_213) (fun _ h9 => h9) rfl d_Cs_learn_29 ?_
    refine lv_iconst (v := 1) hx hb d_Cs_learn_32 (by decide) ?_
    refine lv_iadd hx hb d_Cs_learn_33 ?_
    refine ci_i (y := nI (kz + 1)) (cv_add kz 1) ?_
    refine va_put (D := (dC, dI)) (ci := 7) (v := .int (nI (kz + 1))) (ty := .int) (C := "NetUnfolder$Clauses") (T := T_Cs) (N := 4) hx hb ht in_Cs ty_Cs ok_Cs nm_Cs hown hK hP hD hS 1 rfl rfl 2 (by decide) (ht _ wd_1_213) (fun _ h9 => h9) rfl (by decide +kernel) rfl rfl (Nat.le_of_ble_eq_true rfl) d_Cs_learn_34 (fun H8 locs hPn hDn hSn => ?_)
    replace hP : va_P (dC, dI) clA [(k2, .inl (cL, 815, .inr (.inl (vp_updL kn kz y)))), (k0, .inr (7, [.ref k1, .ref k2, .int (nI (kz + 1)), .int (nI kg)])), (k1, .inl (cL, 815, .inr (.inl (vp_updL ky kz x))))] H8 := hPn
    replace hD : va_D A [(k2, .inl (cL, 815, .inr (.inl (vp_updL kn kz y)))), (k0, .inr (7, [.ref k1, .ref k2, .int (nI (kz + 1)), .int (nI kg)])), (k1, .inl (cL, 815, .inr (.inl (vp_updL ky kz x))))] := hDn
    replace hS := hSn
    clear hPn hDn hSn
    have hP9 := hP.sub (ws' := [(k0, .inr (7, [.ref k1, .ref k2, .int (nI (kz + 1)), .int (nI kg)])), (k1, .inl (cL, 815, .inr (.inl (vp_updL ky kz x)))), (k2, .inl (cL, 815, .inr (.inl (vp_updL kn kz y))))]) [1, 2, 0] rfl
    have hD9 := hD.sub (ws' := [(k0, .inr (7, [.ref k1, .ref k2, .int (nI (kz + 1)), .int (nI kg)])), (k1, .inl (cL, 815, .inr (.inl (vp_updL ky kz x)))), (k2, .inl (cL, 815, .inr (.inl (vp_updL kn kz y))))]) [1, 2, 0] (by decide) rfl
    subst hQ
    exact W.vret hx hb hr (fun t9 ht9 hW => ⟨⟨(), rfl, trivial, (kz + 1), (vp_updL ky kz x), (vp_updL kn kz y), (by first | assumption | omega | trivial | exact AllLt.zero | exact AllN.zero | exact AllM.zero | exact Or.inl rfl | exact Or.inr rfl), (by first | assumption | omega | trivial | exact AllLt.zero | exact AllN.zero | exact AllM.zero | exact Or.inl rfl | exact Or.inr rfl), (by first | assumption | exact AllM.put hky hx1), (by first | assumption | exact AllM.put hkn hy1), by rw [ht9]; exact hP9, hD9⟩, hS.F ht9⟩) hS.2.2 d_Cs_learn_37

set_option maxHeartbeats 4000000 in
set_option maxRecDepth 100000 in
theorem c_Cs_move (l : Launch) (dC : Nat → ClassId) (dI : Nat → Nat → Nat) (cI cL cZ : ClassId) (sz : Nat) (k0 : Nat) (k1 : Nat) (k2 : Nat) (kz : Nat) (kg : Nat) (ky : Nat → Int64) (kn : Nat → Int64) (i : Nat) (j : Nat) (hgz : kg ≤ kz) (hkz : kz ≤ 815) (hkg : kg ≤ 751) (hky : AllM ky 815) (hkn : AllM kn 815) (hi : i < kz) (hj : j < 815) : Met l y_Cs_move (Cond.code y_Cs_move prog_2_method_6_code 3 none :: wsA) { frames := 0, cells := 0, slots := 0, locals := 0 } (va_Pc [.ref k0, .int (nI i), .int (nI j)] (fun U => U.heap.size = sz ∧ va_P (dC, dI) clA [(k0, .inr (7, [.ref k1, .ref k2, .int (nI kz), .int (nI kg)])), (k1, .inl (cL, 815, .inr (.inl ky))), (k2, .inl (cL, 815, .inr (.inl kn)))] U.heap ∧ va_K (dC, dI) clA [(cI, .int), (cL, .long), (cZ, .boolean)] U ∧ va_D (fun _ => True) [(k0, .inr (7, [.ref k1, .ref k2, .int (nI kz), .int (nI kg)])), (k1, .inl (cL, 815, .inr (.inl ky))), (k2, .inl (cL, 815, .inr (.inl kn)))] ∧ NwA U)) (va_Qv (fun _ : Unit => True) (fun _ t => ∃ (ky1 : Nat → Int64), ∃ (kn1 : Nat → Int64), (AllM ky1 815) ∧ (AllM kn1 815) ∧ va_P (dC, dI) clA [(k0, .inr (7, [.ref k1, .ref k2, .int (nI kz), .int (nI kg)])), (k1, .inl (cL, 815, .inr (.inl ky1))), (k2, .inl (cL, 815, .inr (.inl kn1)))] t.heap ∧ va_D (va_A [(k0, .inr (7, [.ref k1, .ref k2, .int (nI kz), .int (nI kg)])), (k1, .inl (cL, 815, .inr (.inl ky))), (k2, .inl (cL, 815, .inr (.inl kn)))] sz) [(k0, .inr (7, [.ref k1, .ref k2, .int (nI kz), .int (nI kg)])), (k1, .inl (cL, 815, .inr (.inl ky1))), (k2, .inl (cL, 815, .inr (.inl kn1)))]) (va_A [(k0, .inr (7, [.ref k1, .ref k2, .int (nI kz), .int (nI kg)])), (k1, .inl (cL, 815, .inr (.inl ky))), (k2, .inl (cL, 815, .inr (.inl kn)))] sz)) 0 0 (va_A [(k0, .inr (7, [.ref k1, .ref k2, .int (nI kz), .int (nI kg)])), (k1, .inl (cL, 815, .inr (.inl ky))), (k2, .inl (cL, 815, .inr (.inl kn)))] sz) := by
  refine Met.ofW (cc := prog_2_method_6_code) (maxL := 3) (ret := none) (by decide) rfl ?_
  intro p e s m args below meth c s₁ B hml hv
  obtain ⟨rfl, hsz, hP, hK, hD0, hN⟩ := hv
  have hx := B.exec
  have hb := B.bytes
  have hr := B.returns
  have ht : ∀ w ∈ wsA, w.before _ s = true := fun w h => atoms_spec (ws := (Cond.code y_Cs_move prog_2_method_6_code 3 none :: wsA)) B.pre w (List.mem_cons_of_mem _ h)
  have hown : s.vm.findClass "NetUnfolder$Clauses" = some m.cls := findClass_of_methodNamed B.named
  have hlocks := B.notSynchronized
  subst hsz
  have hD := hD0.self (sz := s.heap.size)
  generalize hAe : va_A [(k0, .inr (7, [.ref k1, .ref k2, .int (nI kz), .int (nI kg)])), (k1, .inl (cL, 815, .inr (.inl ky))), (k2, .inl (cL, 815, .inr (.inl kn)))] s.heap.size = A at hD ⊢
  have hA : ∀ q : Nat, s.heap.size ≤ q → A q := fun q h => by rw [← hAe]; exact Or.inr h
  have hS : va_S A s.heap s.heap [] := va_S.rf
  have hl := lv_entry ([.ref k0, .int (nI i), .int (nI j)]) (n := 3) (Nat.le_of_ble_eq_true rfl)
  rw [lg_entry_eq]
  generalize (lg_sl ([.ref k0, .int (nI i), .int (nI j)]) ++ List.replicate (3 - (lg_sl ([.ref k0, .int (nI i), .int (nI j)])).length) Slot.unset).toArray = ls at hl ⊢
  replace hl : lv_has ls 3 [(0, .ref k0), (1, .int (nI i)), (2, .int (nI j))] := hl
  refine W_Q (fun Q hQ => ?_)
  refine lv_aload_n hx hb d_Cs_move_0 rfl (lv_at hl 0 rfl) ?_
  refine va_get (D := (dC, dI)) (ci := 7) (v := .ref k1) (C := "NetUnfolder$Clauses") (T := T_Cs) (N := 4) hx hb ht in_Cs hown hK hP 0 rfl rfl 0 (by decide) (ht _ wd_1_209) (fun _ h9 => h9) rfl d_Cs_move_1 ?_
  refine lv_iload_n hx hb d_Cs_move_4 rfl (lv_at hl 2 rfl) ?_
  refine lv_aload_n hx hb d_Cs_move_5 rfl (lv_at hl 0 rfl) ?_
  refine va_get (D := (dC, dI)) (ci := 7) (v := .ref k1) (C := "NetUnfolder$Clauses") (T := T_Cs) (N := 4) hx hb ht in_Cs hown hK hP 0 rfl rfl 0 (by decide) (ht _ wd_1_209) (fun _ h9 => h9) rfl d_Cs_move_6 ?_
  refine lv_iload_n hx hb d_Cs_move_9 rfl (lv_at hl 1 rfl) ?_
  refine na_lald (k := i) hx hb hK hP 1 1 rfl rfl (by omega) (by decide) d_Cs_move_10 ?_
  refine na_last (k := j) hx hb hK hP hD hS 1 1 rfl rfl (by omega) (by decide) d_Cs_move_11 (fun H1 locs hPn hDn hSn => ?_)
  replace hP : va_P (dC, dI) clA [(k0, .inr (7, [.ref k1, .ref k2, .int (nI kz), .int (nI kg)])), (k1, .inl (cL, 815, .inr (.inl (vp_updL ky j (ky i))))), (k2, .inl (cL, 815, .inr (.inl kn)))] H1 := hPn
  replace hD : va_D A [(k0, .inr (7, [.ref k1, .ref k2, .int (nI kz), .int (nI kg)])), (k1, .inl (cL, 815, .inr (.inl (vp_updL ky j (ky i))))), (k2, .inl (cL, 815, .inr (.inl kn)))] := hDn
  replace hS := hSn
  clear hPn hDn hSn
  refine lv_aload_n hx hb d_Cs_move_12 rfl (lv_at hl 0 rfl) ?_
  refine va_get (D := (dC, dI)) (ci := 7) (v := .ref k2) (C := "NetUnfolder$Clauses") (T := T_Cs) (N := 4) hx hb ht in_Cs hown hK hP 0 rfl rfl 1 (by decide) (ht _ wd_1_211) (fun _ h9 => h9) rfl d_Cs_move_13 ?_
  refine lv_iload_n hx hb d_Cs_move_16 rfl (lv_at hl 2 rfl) ?_
  refine lv_aload_n hx hb d_Cs_move_17 rfl (lv_at hl 0 rfl) ?_
  refine va_get (D := (dC, dI)) (ci := 7) (v := .ref k2) (C := "NetUnfolder$Clauses") (T := T_Cs) (N := 4) hx hb ht in_Cs hown hK hP 0 rfl rfl 1 (by decide) (ht _ wd_1_211) (fun _ h9 => h9) rfl d_Cs_move_18 ?_
  refine lv_iload_n hx hb d_Cs_move_21 rfl (lv_at hl 1 rfl) ?_
  refine na_lald (k := i) hx hb hK hP 2 1 rfl rfl (by omega) (by decide) d_Cs_move_22 ?_
  refine na_last (k := j) hx hb hK hP hD hS 2 1 rfl rfl (by omega) (by decide) d_Cs_move_23 (fun H2 locs hPn hDn hSn => ?_)
  replace hP : va_P (dC, dI) clA [(k0, .inr (7, [.ref k1, .ref k2, .int (nI kz), .int (nI kg)])), (k1, .inl (cL, 815, .inr (.inl (vp_updL ky j (ky i))))), (k2, .inl (cL, 815, .inr (.inl (vp_updL kn j (kn i)))))] H2 := hPn
  replace hD : va_D A [(k0, .inr (7, [.ref k1, .ref k2, .int (nI kz), .int (nI kg)])), (k1, .inl (cL, 815, .inr (.inl (vp_updL ky j (ky i))))), (k2, .inl (cL, 815, .inr (.inl (vp_updL kn j (kn i)))))] := hDn
  replace hS := hSn
  clear hPn hDn hSn
  have hP9 := hP.sub (ws' := [(k0, .inr (7, [.ref k1, .ref k2, .int (nI kz), .int (nI kg)])), (k1, .inl (cL, 815, .inr (.inl (vp_updL ky j (ky i))))), (k2, .inl (cL, 815, .inr (.inl (vp_updL kn j (kn i)))))]) [0, 1, 2] rfl
  have hD9 := hD.sub (ws' := [(k0, .inr (7, [.ref k1, .ref k2, .int (nI kz), .int (nI kg)])), (k1, .inl (cL, 815, .inr (.inl (vp_updL ky j (ky i))))), (k2, .inl (cL, 815, .inr (.inl (vp_updL kn j (kn i)))))]) [0, 1, 2] (by decide) rfl
  subst hQ
  exact W.vret hx hb hr (fun t9 ht9 hW => ⟨⟨(), rfl, trivial, (vp_updL ky j (ky i)), (vp_updL kn j (kn i)), (AllM.move hky (by omega) (Nat.le_refl _)), (AllM.move hkn (by omega) (Nat.le_refl _)), by rw [ht9]; exact hP9, hD9⟩, hS.F ht9⟩) hS.2.2 d_Cs_move_24
