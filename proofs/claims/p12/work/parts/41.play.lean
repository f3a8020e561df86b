set_option maxHeartbeats 4000000 in
set_option maxRecDepth 100000 in
theorem r_Wa_step (l : Launch) (dC : Nat → ClassId) (dI : Nat → Nat → Nat) (cI cL cZ : ClassId) (sz : Nat) (w0 : Nat) (w1 : Nat) (wn : Nat) (wf : Nat → Int32) (k : Nat) (hwn : wn ≤ 31) (hk : k < wn) : Met l y_Wa_step (Cond.code y_Wa_step prog_9_method_5_code 2 (some .int) :: wsA) { frames := 0, cells := 0, slots := 0, locals := 0 } (va_Pc [.ref w0, .int (nI k)] (fun U => U.heap.size = sz ∧ va_P (dC, dI) clA [(w0, .inr (3, [.ref w1, .int (nI wn)])), (w1, .inl (cI, 31, .inl wf))] U.heap ∧ va_K (dC, dI) clA [(cI, .int), (cL, .long), (cZ, .boolean)] U ∧ va_D (fun _ => True) [(w0, .inr (3, [.ref w1, .int (nI wn)])), (w1, .inl (cI, 31, .inl wf))] ∧ NwA U)) (va_Qi (fun r (_ : Unit) => r = wf k) (fun _ t => True) (va_A [] sz)) 0 0 (va_A [] sz) := by
  refine Met.ofW (cc := prog_9_method_5_code) (maxL := 2) (ret := (some .int)) (by decide) rfl ?_
  intro p e s m args below meth c s₁ B hml hv
  obtain ⟨rfl, hsz, hP, hK, hD0, hN⟩ := hv
  have hx := B.exec
  have hb := B.bytes
  have hr := B.returns
  have ht : ∀ w ∈ wsA, w.before _ s = true := fun w h => atoms_spec (ws := (Cond.code y_Wa_step prog_9_method_5_code 2 (some .int) :: wsA)) B.pre w (List.mem_cons_of_mem _ h)
  have hown : s.vm.findClass "NetUnfolder$Way" = some m.cls := findClass_of_methodNamed B.named
  have hlocks := B.notSynchronized
  subst hsz
  have hD := hD0
  generalize hAe : va_A [] s.heap.size = A
  have hA : ∀ q : Nat, s.heap.size ≤ q → A q := fun q h => by rw [← hAe]; exact Or.inr h
  have hS : va_S A s.heap s.heap [] := va_S.rf
  have hl := lv_entry ([.ref w0, .int (nI k)]) (n := 2) (Nat.le_of_ble_eq_true rfl)
  rw [lg_entry_eq]
  generalize (lg_sl ([.ref w0, .int (nI k)]) ++ List.replicate (2 - (lg_sl ([.ref w0, .int (nI k)])).length) Slot.unset).toArray = ls at hl ⊢
  replace hl : lv_has ls 2 [(0, .ref w0), (1, .int (nI k))] := hl
  refine W_Q (fun Q hQ => ?_)
  refine lv_iload_n hx hb d_Wa_step_0 rfl (lv_at hl 1 rfl) ?_
  refine lv_if_lt (tgt := 21) hx hb d_Wa_step_1 (by decide) (fun hb1 => ?_) (fun hb1 => ?_)
  · skip
    replace hb1 := cv_lt (a := k) (b := 0) (by omega) (by omega) hb1
    exfalso; omega
  · skip
    replace hb1 := cv_nlt (a := k) (b := 0) (by omega) (by omega) hb1
    refine lv_iload_n hx hb d_Wa_step_4 rfl (lv_at hl 1 rfl) ?_
    refine lv_aload_n hx hb d_Wa_step_5 rfl (lv_at hl 0 rfl) ?_
    refine va_get (D := (dC, dI)) (ci := 3) (v := .int (nI wn)) (C := "NetUnfolder$Way") (T := T_Wa) (N := 2) hx hb ht in_Wa hown hK hP 0 rfl rfl 1 (by decide) (ht _ wd_1_144) (fun _ h9 => h9) rfl d_Wa_step_6 ?_
    refine lv_icmp_ge (tgt := 21) hx hb d_Wa_step_9 (by decide) (fun hb2 => ?_) (fun hb2 => ?_)
    · skip
      replace hb2 := cv_le (a := wn) (b := k) (by omega) (by omega) hb2
      exfalso; omega
    · skip
      replace hb2 := cv_nle (a := wn) (b := k) (by omega) (by omega) hb2
      refine lv_aload_n hx hb d_Wa_step_12 rfl (lv_at hl 0 rfl) ?_
      refine va_get (D := (dC, dI)) (ci := 3) (v := .ref w1) (C := "NetUnfolder$Way") (T := T_Wa) (N := 2) hx hb ht in_Wa hown hK hP 0 rfl rfl 0 (by decide) (ht _ wd_1_143) (fun _ h9 => h9) rfl d_Wa_step_13 ?_
      refine lv_iload_n hx hb d_Wa_step_16 rfl (lv_at hl 1 rfl) ?_
      refine na_iald (k := k) hx hb hK hP 1 0 rfl rfl (by omega) (by decide) d_Wa_step_17 ?_
      refine lv_goto (tgt := 22) hx hb d_Wa_step_18 (by decide) ?_
      subst hQ
      exact W.iret (v := wf k) hx hb hr (fun t9 ht9 hW => ⟨⟨wf k, (), rfl, rfl, trivial⟩, hS.F ht9⟩) hS.2.2 d_Wa_step_22

set_option maxHeartbeats 4000000 in
set_option maxRecDepth 100000 in
theorem r_Ne_enables (l : Launch) (dC : Nat → ClassId) (dI : Nat → Nat → Nat) (cI cL cZ : ClassId) (sz : Nat) (n0 : Nat) (n1 : Nat) (n2 : Nat) (nz : Nat) (nf : Int32) (np : Nat → Int32) (x : Int32) (y : Int32) (hnz : nz ≤ 8) : Met l y_Ne_enables (Cond.code y_Ne_enables prog_3_method_4_code 3 (some .boolean) :: wsA) { frames := 0, cells := 0, slots := 0, locals := 0 } (va_Pc [.ref n0, .int x, .int y] (fun U => U.heap.size = sz ∧ va_P (dC, dI) clA [(n0, .inr (1, [.ref n1, .ref n2, .int (nI nz), .int nf])), (n1, .inl (cI, 8, .inl np))] U.heap ∧ va_K (dC, dI) clA [(cI, .int), (cL, .long), (cZ, .boolean)] U ∧ va_D (fun _ => True) [(n0, .inr (1, [.ref n1, .ref n2, .int (nI nz), .int nf])), (n1, .inl (cI, 8, .inl np))] ∧ NwA U)) (va_Qi (fun r (_ : Unit) => ((r = 1 ∧ pE np nz x y) ∨ (r = 0 ∧ ¬ pE np nz x y))) (fun _ t => True) (va_A [] sz)) 0 0 (va_A [] sz) := by
  refine Met.ofW (cc := prog_3_method_4_code) (maxL := 3) (ret := (some .boolean)) (by decide) rfl ?_
  intro p e s m args below meth c s₁ B hml hv
  obtain ⟨rfl, hsz, hP, hK, hD0, hN⟩ := hv
  have hx := B.exec
  have hb := B.bytes
  have hr := B.returns
  have ht : ∀ w ∈ wsA, w.before _ s = true := fun w h => atoms_spec (ws := (Cond.code y_Ne_enables prog_3_method_4_code 3 (some .boolean) :: wsA)) B.pre w (List.mem_cons_of_mem _ h)
  have hown : s.vm.findClass "NetUnfolder$Net" = some m.cls := findClass_of_methodNamed B.named
  have hlocks := B.notSynchronized
  subst hsz
  have hD := hD0
  generalize hAe : va_A [] s.heap.size = A
  have hA : ∀ q : Nat, s.heap.size ≤ q → A q := fun q h => by rw [← hAe]; exact Or.inr h
  have hS : va_S A s.heap s.heap [] := va_S.rf
  have hl := lv_entry ([.ref n0, .int x, .int y]) (n := 3) (Nat.le_of_ble_eq_true rfl)
  rw [lg_entry_eq]
  generalize (lg_sl ([.ref n0, .int x, .int y]) ++ List.replicate (3 - (lg_sl ([.ref n0, .int x, .int y])).length) Slot.unset).toArray = ls at hl ⊢
  replace hl : lv_has ls 3 [(0, .ref n0), (1, .int x), (2, .int y)] := hl
  refine W_Q (fun Q hQ => ?_)
  refine lv_iload_n hx hb d_Ne_enables_0 rfl (lv_at hl 2 rfl) ?_
  refine lv_if_lt (tgt := 33) hx hb d_Ne_enables_1 (by decide) (fun hb1 => ?_) (fun hb1 => ?_)
  · skip
    refine lv_iconst (v := 0) hx hb d_Ne_enables_33 (by decide) ?_
    subst hQ
    exact W.zret (v := 0) hx hb hr rfl (fun t9 ht9 hW => ⟨⟨0, (), rfl, (Or.inr ⟨rfl, pE_n1 hnz hb1⟩), trivial⟩, hS.F ht9⟩) hS.2.2 d_Ne_enables_34
  · skip
    refine lv_iload_n hx hb d_Ne_enables_4 rfl (lv_at hl 2 rfl) ?_
    refine lv_aload_n hx hb d_Ne_enables_5 rfl (lv_at hl 0 rfl) ?_
    refine va_get (D := (dC, dI)) (ci := 1) (v := .int (nI nz)) (C := "NetUnfolder$Net") (T := T_Ne) (N := 4) hx hb ht in_Ne hown hK hP 0 rfl rfl 2 (by decide) (ht _ wd_1_38) (fun _ h9 => h9) rfl d_Ne_enables_6 ?_
    refine lv_icmp_ge (tgt := 33) hx hb d_Ne_enables_9 (by decide) (fun hb2 => ?_) (fun hb2 => ?_)
    · skip
      refine lv_iconst (v := 0) hx hb d_Ne_enables_33 (by decide) ?_
      subst hQ
      exact W.zret (v := 0) hx hb hr rfl (fun t9 ht9 hW => ⟨⟨0, (), rfl, (Or.inr ⟨rfl, pE_n2 hnz hb2⟩), trivial⟩, hS.F ht9⟩) hS.2.2 d_Ne_enables_34
    · skip
      obtain ⟨j3, j3_l, rfl⟩ := ix_of2 (by omega) hb1 hb2
      refine lv_iload_n hx hb d_Ne_enables_12 rfl (lv_at hl 1 rfl) ?_
      refine lv_aload_n hx hb d_Ne_enables_13 rfl (lv_at hl 0 rfl) ?_
      refine va_get (D := (dC, dI)) (ci := 1) (v := .ref n1) (C := "NetUnfolder$Net") (T := T_Ne) (N := 4) hx hb ht in_Ne hown hK hP 0 rfl rfl 0 (by decide) (ht _ wd_1_33) (fun _ h9 => h9) rfl d_Ne_enables_14 ?_
      refine lv_iload_n hx hb d_Ne_enables_17 rfl (lv_at hl 2 rfl) ?_
      refine na_iald (k := j3) hx hb hK hP 1 0 rfl rfl (by omega) (by decide) d_Ne_enables_18 ?_
      refine lv_iand hx hb d_Ne_enables_19 ?_
      refine lv_aload_n hx hb d_Ne_enables_20 rfl (lv_at hl 0 rfl) ?_
      refine va_get (D := (dC, dI)) (ci := 1) (v := .ref n1) (C := "NetUnfolder$Net") (T := T_Ne) (N := 4) hx hb ht in_Ne hown hK hP 0 rfl rfl 0 (by decide) (ht _ wd_1_33) (fun _ h9 => h9) rfl d_Ne_enables_21 ?_
      refine lv_iload_n hx hb d_Ne_enables_24 rfl (lv_at hl 2 rfl) ?_
      refine na_iald (k := j3) hx hb hK hP 1 0 rfl rfl (by omega) (by decide) d_Ne_enables_25 ?_
      refine lv_icmp_ne (tgt := 33) hx hb d_Ne_enables_26 (by decide) (fun hb4 => ?_) (fun hb4 => ?_)
      · skip
        refine lv_iconst (v := 0) hx hb d_Ne_enables_33 (by decide) ?_
        subst hQ
        exact W.zret (v := 0) hx hb hr rfl (fun t9 ht9 hW => ⟨⟨0, (), rfl, (Or.inr ⟨rfl, pE_n3 hnz j3_l hb4⟩), trivial⟩, hS.F ht9⟩) hS.2.2 d_Ne_enables_34
      · skip
        refine lv_iconst (v := 1) hx hb d_Ne_enables_29 (by decide) ?_
        refine lv_goto (tgt := 34) hx hb d_Ne_enables_30 (by decide) ?_
        subst hQ
        exact W.zret (v := 1) hx hb hr rfl (fun t9 ht9 hW => ⟨⟨1, (), rfl, (Or.inl ⟨rfl, j3, j3_l, rfl, hb4⟩), trivial⟩, hS.F ht9⟩) hS.2.2 d_Ne_enables_34

set_option maxHeartbeats 4000000 in
set_option maxRecDepth 100000 in
theorem r_Ne_fire (l : Launch) (dC : Nat → ClassId) (dI : Nat → Nat → Nat) (cI cL cZ : ClassId) (sz : Nat) (n0 : Nat) (n1 : Nat) (n2 : Nat) (nz : Nat) (nf : Int32) (np : Nat → Int32) (nq : Nat → Int32) (x : Int32) (k : Nat) (hk8 : k < 8) : Met l y_Ne_fire (Cond.code y_Ne_fire prog_3_method_5_code 3 (some .int) :: wsA) { frames := 0, cells := 0, slots := 0, locals := 0 } (va_Pc [.ref n0, .int x, .int (nI k)] (fun U => U.heap.size = sz ∧ va_P (dC, dI) clA [(n0, .inr (1, [.ref n1, .ref n2, .int (nI nz), .int nf])), (n1, .inl (cI, 8, .inl np)), (n2, .inl (cI, 8, .inl nq))] U.heap ∧ va_K (dC, dI) clA [(cI, .int), (cL, .long), (cZ, .boolean)] U ∧ va_D (fun _ => True) [(n0, .inr (1, [.ref n1, .ref n2, .int (nI nz), .int nf])), (n1, .inl (cI, 8, .inl np)), (n2, .inl (cI, 8, .inl nq))] ∧ NwA U)) (va_Qi (fun r (_ : Unit) => r = (x &&& ((np k) ^^^ (-1))) ||| (nq k)) (fun _ t => True) (va_A [] sz)) 0 0 (va_A [] sz) := by
  refine Met.ofW (cc := prog_3_method_5_code) (maxL := 3) (ret := (some .int)) (by decide) rfl ?_
  intro p e s m args below meth c s₁ B hml hv
  obtain ⟨rfl, hsz, hP, hK, hD0, hN⟩ := hv
  have hx := B.exec
  have hb := B.bytes
  have hr := B.returns
  have ht : ∀ w ∈ wsA, w.before _ s = true := fun w h => atoms_spec (ws := (Cond.code y_Ne_fire prog_3_method_5_code 3 (some .int) :: wsA)) B.pre w (List.mem_cons_of_mem _ h)
  have hown : s.vm.findClass "NetUnfolder$Net" = some m.cls := findClass_of_methodNamed B.named
  have hlocks := B.notSynchronized
  subst hsz
  have hD := hD0
  generalize hAe : va_A [] s.heap.size = A
  have hA : ∀ q : Nat, s.heap.size ≤ q → A q := fun q h => by rw [← hAe]; exact Or.inr h
  have hS : va_S A s.heap s.heap [] := va_S.rf
  have hl := lv_entry ([.ref n0, .int x, .int (nI k)]) (n := 3) (Nat.le_of_ble_eq_true rfl)
  rw [lg_entry_eq]
  generalize (lg_sl ([.ref n0, .int x, .int (nI k)]) ++ List.replicate (3 - (lg_sl ([.ref n0, .int x, .int (nI k)])).length) Slot.unset).toArray = ls at hl ⊢
  replace hl : lv_has ls 3 [(0, .ref n0), (1, .int x), (2, .int (nI k))] := hl
  refine W_Q (fun Q hQ => ?_)
  refine lv_iload_n hx hb d_Ne_fire_0 rfl (lv_at hl 1 rfl) ?_
  refine lv_aload_n hx hb d_Ne_fire_1 rfl (lv_at hl 0 rfl) ?_
  refine va_get (D := (dC, dI)) (ci := 1) (v := .ref n1) (C := "NetUnfolder$Net") (T := T_Ne) (N := 4) hx hb ht in_Ne hown hK hP 0 rfl rfl 0 (by decide) (ht _ wd_1_33) (fun _ h9 => h9) rfl d_Ne_fire_2 ?_
  refine lv_iload_n hx hb d_Ne_fire_5 rfl (lv_at hl 2 rfl) ?_
  refine na_iald (k := k) hx hb hK hP 1 0 rfl rfl (by omega) (by decide) d_Ne_fire_6 ?_
  refine lv_iconst (v := (-1)) hx hb d_Ne_fire_7 (by decide) ?_
  refine lv_ixor hx hb d_Ne_fire_8 ?_
  refine lv_iand hx hb d_Ne_fire_9 ?_
  refine lv_aload_n hx hb d_Ne_fire_10 rfl (lv_at hl 0 rfl) ?_
  refine va_get (D := (dC, dI)) (ci := 1) (v := .ref n2) (C := "NetUnfolder$Net") (T := T_Ne) (N := 4) hx hb ht in_Ne hown hK hP 0 rfl rfl 1 (by decide) (ht _ wd_1_36) (fun _ h9 => h9) rfl d_Ne_fire_11 ?_
  refine lv_iload_n hx hb d_Ne_fire_14 rfl (lv_at hl 2 rfl) ?_
  refine na_iald (k := k) hx hb hK hP 2 0 rfl rfl (by omega) (by decide) d_Ne_fire_15 ?_
  refine lv_ior hx hb d_Ne_fire_16 ?_
  subst hQ
  exact W.iret (v := (x &&& ((np k) ^^^ (-1))) ||| (nq k)) hx hb hr (fun t9 ht9 hW => ⟨⟨(x &&& ((np k) ^^^ (-1))) ||| (nq k), (), rfl, rfl, trivial⟩, hS.F ht9⟩) hS.2.2 d_Ne_fire_17

set_option maxHeartbeats 4000000 in
set_option maxRecDepth 100000 in
theorem c_NU_play_ok (l : Launch) (dC : Nat → ClassId) (dI : Nat → Nat → Nat) (cI cL cZ : ClassId) (sz : Nat) (x0 : Nat) (u0 : Nat) (n0 : Nat) (n1 : Nat) (n2 : Nat) (nz : Nat) (nf : Int32) (np : Nat → Int32) (nq : Nat → Int32) (w0 : Nat) (w1 : Nat) (wf : Nat → Int32) (f0 : Nat) (q0 : Nat) (wn : Nat) (k : Nat) (hwn : wn ≤ 31) (hnz : nz ≤ 8) (hk : k ≤ wn) (hok : ∀ i, i < k → pE np nz (pM np nq wf nf i) (wf i)) : Met l y_NU_play (Cond.code y_NU_play prog_1_method_9_code 6 (some .int) :: wsA) { frames := 1, cells := 0, slots := 0, locals := 22 } (va_Pc [.ref x0, .int (nI k)] (fun U => U.heap.size = sz ∧ va_P (dC, dI) clA [(x0, .inr (0, [.ref n0, .ref f0, .ref w0, .ref u0, .ref q0])), (n0, .inr (1, [.ref n1, .ref n2, .int (nI nz), .int nf])), (n1, .inl (cI, 8, .inl np)), (n2, .inl (cI, 8, .inl nq)), (w0, .inr (3, [.ref w1, .int (nI wn)])), (w1, .inl (cI, 31, .inl wf))] U.heap ∧ va_K (dC, dI) clA [(cI, .int), (cL, .long), (cZ, .boolean)] U ∧ va_D (fun _ => True) [(x0, .inr (0, [.ref n0, .ref f0, .ref w0, .ref u0, .ref q0])), (n0, .inr (1, [.ref n1, .ref n2, .int (nI nz), .int nf])), (n1, .inl (cI, 8, .inl np)), (n2, .inl (cI, 8, .inl nq)), (w0, .inr (3, [.ref w1, .int (nI wn)])), (w1, .inl (cI, 31, .inl wf))] ∧ NwA U)) (va_Qi (fun r (_ : Unit) => True) (fun _ t => va_P (dC, dI) clA [(x0, .inr (0, [.ref n0, .ref f0, .ref w0, .ref u0, .ref q0])), (n0, .inr (1, [.ref n1, .ref n2, .int (nI nz), .int nf])), (n1, .inl (cI, 8, .inl np)), (n2, .inl (cI, 8, .inl nq)), (w0, .inr (3, [.ref w1, .int (nI wn)])), (w1, .inl (cI, 31, .inl wf))] t.heap ∧ va_D (va_A [(x0, .inr (0, [.ref n0, .ref f0, .ref w0, .ref u0, .ref q0])), (n0, .inr (1, [.ref n1, .ref n2, .int (nI nz), .int nf])), (n1, .inl (cI, 8, .inl np)), (n2, .inl (cI, 8, .inl nq)), (w0, .inr (3, [.ref w1, .int (nI wn)])), (w1, .inl (cI, 31, .inl wf))] sz) [(x0, .inr (0, [.ref n0, .ref f0, .ref w0, .ref u0, .ref q0])), (n0, .inr (1, [.ref n1, .ref n2, .int (nI nz), .int nf])), (n1, .inl (cI, 8, .inl np)), (n2, .inl (cI, 8, .inl nq)), (w0, .inr (3, [.ref w1, .int (nI wn)])), (w1, .inl (cI, 31, .inl wf))]) (va_A [(x0, .inr (0, [.ref n0, .ref f0, .ref w0, .ref u0, .ref q0])), (n0, .inr (1, [.ref n1, .ref n2, .int (nI nz), .int nf])), (n1, .inl (cI, 8, .inl np)), (n2, .inl (cI, 8, .inl nq)), (w0, .inr (3, [.ref w1, .int (nI wn)])), (w1, .inl (cI, 31, .inl wf))] sz)) 0 0 (va_A [(x0, .inr (0, [.ref n0, .ref f0, .ref w0, .ref u0, .ref q0])), (n0, .inr (1, [.ref n1, .ref n2, .int (nI nz), .int nf])), (n1, .inl (cI, 8, .inl np)), (n2, .inl (cI, 8, .inl nq)), (w0, .inr (3, [.ref w1, .int (nI wn)])), (w1, .inl (cI, 31, .inl wf))] sz) := by
  refine Met.ofW (cc := prog_1_method_9_code) (maxL := 6) (ret := (some .int)) (by decide) rfl ?_
  intro p e s m args below meth c s₁ B hml hv
  obtain ⟨rfl, hsz, hP, hK, hD0, hN⟩ := hv
  have hx := B.exec
  have hb := B.bytes
  have hr := B.returns
  have ht : ∀ w ∈ wsA, w.before _ s = true := fun w h => atoms_spec (ws := (Cond.code y_NU_play prog_1_method_9_code 6 (some .int) :: wsA)) B.pre w (List.mem_cons_of_mem _ h)
  have hown : s.vm.findClass "NetUnfolder" = some m.cls := findClass_of_methodNamed B.named
  have hlocks := B.notSynchronized
  subst hsz
  have hD := hD0.self (sz := s.heap.size)
  generalize hAe : va_A [(x0, .inr (0, [.ref n0, .ref f0, .ref w0, .ref u0, .ref q0])), (n0, .inr (1, [.ref n1, .ref n2, .int (nI nz), .int nf])), (n1, .inl (cI, 8, .inl np)), (n2, .inl (cI, 8, .inl nq)), (w0, .inr (3, [.ref w1, .int (nI wn)])), (w1, .inl (cI, 31, .inl wf))] s.heap.size = A at hD ⊢
  have hA : ∀ q : Nat, s.heap.size ≤ q → A q := fun q h => by rw [← hAe]; exact Or.inr h
  have hS : va_S A s.heap s.heap [] := va_S.rf
  have hl := lv_entry ([.ref x0, .int (nI k)]) (n := 6) (Nat.le_of_ble_eq_true rfl)
  rw [lg_entry_eq]
  generalize (lg_sl ([.ref x0, .int (nI k)]) ++ List.replicate (6 - (lg_sl ([.ref x0, .int (nI k)])).length) Slot.unset).toArray = ls at hl ⊢
  replace hl : lv_has ls 6 [(0, .ref x0), (1, .int (nI k))] := hl
  refine W_Q (fun Q hQ => ?_)
  refine lv_aload_n hx hb d_NU_play_0 rfl (lv_at hl 0 rfl) ?_
  refine va_get (D := (dC, dI)) (ci := 0) (v := .ref w0) (C := "NetUnfolder") (T := T_NU) (N := 5) hx hb ht in_NU hown hK hP 0 rfl rfl 2 (by decide) (ht _ wd_2_38) (fun _ h9 => h9) rfl d_NU_play_1 ?_
  refine va_get (D := (dC, dI)) (ci := 3) (v := .int (nI wn)) (C := "NetUnfolder$Way") (T := T_Wa) (N := 2) hx hb ht in_Wa hown hK hP 4 rfl rfl 1 (by decide) (ht _ wd_1_146) (fun _ h9 => h9) rfl d_NU_play_4 ?_
  refine lv_iconst (v := (-1)) hx hb d_NU_play_7 (by decide) ?_
  refine lv_icmp_eq (tgt := 15) hx hb d_NU_play_8 (by decide) (fun hb1 => ?_) (fun hb1 => ?_)
  · skip
    exact (cv_nm1 (by omega) hb1).elim
  · skip
    refine lv_iconst (v := 1) hx hb d_NU_play_11 (by decide) ?_
    refine lv_goto (tgt := 16) hx hb d_NU_play_12 (by decide) ?_
    refine lv_istore_n (lv' := [(2, .int 1), (0, .ref x0), (1, .int (nI k))]) hx hb d_NU_play_16 rfl hl (by decide) rfl (fun ls hln => ?_)
    replace hl : lv_has ls 6 [(2, .int 1), (0, .ref x0), (1, .int (nI k))] := hln
    clear hln
    refine lv_iload_n hx hb d_NU_play_17 rfl (lv_at hl 2 rfl) ?_
    refine lv_if_lt (tgt := 36) hx hb d_NU_play_18 (by decide) (fun hb2 => ?_) (fun hb2 => ?_)
    · skip
      replace hb2 := cv_lt (a := k) (b := 0) (by omega) (by omega) hb2
      exfalso; omega
    · skip
      replace hb2 := cv_nlt (a := k) (b := 0) (by omega) (by omega) hb2
      refine lv_iload_n hx hb d_NU_play_21 rfl (lv_at hl 0 rfl) ?_
      refine lv_if_eq (tgt := 44) hx hb d_NU_play_22 (by decide) (fun h => absurd h (by decide)) (fun _ => ?_)
      refine lv_iload_n hx hb d_NU_play_25 rfl (lv_at hl 2 rfl) ?_
      refine lv_aload_n hx hb d_NU_play_26 rfl (lv_at hl 1 rfl) ?_
      refine va_get (D := (dC, dI)) (ci := 0) (v := .ref w0) (C := "NetUnfolder") (T := T_NU) (N := 5) hx hb ht in_NU hown hK hP 0 rfl rfl 2 (by decide) (ht _ wd_2_38) (fun _ h9 => h9) rfl d_NU_play_27 ?_
      refine va_get (D := (dC, dI)) (ci := 3) (v := .int (nI wn)) (C := "NetUnfolder$Way") (T := T_Wa) (N := 2) hx hb ht in_Wa hown hK hP 4 rfl rfl 1 (by decide) (ht _ wd_1_146) (fun _ h9 => h9) rfl d_NU_play_30 ?_
      refine lv_icmp_le (tgt := 44) hx hb d_NU_play_33 (by decide) (fun hb3 => ?_) (fun hb3 => ?_)
      · skip
        replace hb3 := cv_le (a := k) (b := wn) (by omega) (by omega) hb3
        refine lv_iload_n hx hb d_NU_play_44 rfl (lv_at hl 0 rfl) ?_
        refine lv_if_ne (tgt := 56) hx hb d_NU_play_45 (by decide) (fun _ => ?_) (fun h => absurd h (by decide))
        refine lv_aload_n hx hb d_NU_play_56 rfl (lv_at hl 1 rfl) ?_
        refine va_get (D := (dC, dI)) (ci := 0) (v := .ref n0) (C := "NetUnfolder") (T := T_NU) (N := 5) hx hb ht in_NU hown hK hP 0 rfl rfl 0 (by decide) (ht _ wd_2_36) (fun _ h9 => h9) rfl d_NU_play_57 ?_
        refine va_get (D := (dC, dI)) (ci := 1) (v := .int nf) (C := "NetUnfolder$Net") (T := T_Ne) (N := 4) hx hb ht in_Ne hown hK hP 1 rfl rfl 3 (by decide) (ht _ wd_1_44) (fun _ h9 => h9) rfl d_NU_play_60 ?_
        refine lv_istore_n (lv' := [(3, .int nf), (2, .int 1), (0, .ref x0), (1, .int (nI k))]) hx hb d_NU_play_63 rfl hl (by decide) rfl (fun ls hln => ?_)
        replace hl : lv_has ls 6 [(3, .int nf), (2, .int 1), (0, .ref x0), (1, .int (nI k))] := hln
        clear hln
        refine lv_iconst (v := 0) hx hb d_NU_play_64 (by decide) ?_
        refine lv_istore (lv' := [(4, .int 0), (3, .int nf), (2, .int 1), (0, .ref x0), (1, .int (nI k))]) hx hb d_NU_play_65 hl (by decide) rfl (fun ls hln => ?_)
        replace hl : lv_has ls 6 [(4, .int 0), (3, .int nf), (2, .int 1), (0, .ref x0), (1, .int (nI k))] := hln
        clear hln
        have hloop4 : ∀ (n67 : Nat) (i : Nat) (mv : Int32) (hi : i ≤ k) (hmv : mv = pM np nq wf nf i) (H : Heap) (locs : List Loc) (ls : Array Slot) (hl : lv_has ls 6 [(0, .ref x0), (1, .int (nI k)), (3, .int mv), (4, .int (nI i))]) (hP : va_P (dC, dI) clA [(x0, .inr (0, [.ref n0, .ref f0, .ref w0, .ref u0, .ref q0])), (n0, .inr (1, [.ref n1, .ref n2, .int (nI nz), .int nf])), (n1, .inl (cI, 8, .inl np)), (n2, .inl (cI, 8, .inl nq)), (w0, .inr (3, [.ref w1, .int (nI wn)])), (w1, .inl (cI, 31, .inl wf))] H) (hD : va_D A [(x0, .inr (0, [.ref n0, .ref f0, .ref w0, .ref u0, .ref q0])), (n0, .inr (1, [.ref n1, .ref n2, .int (nI nz), .int nf])), (n1, .inl (cI, 8, .inl np)), (n2, .inl (cI, 8, .inl nq)), (w0, .inr (3, [.ref w1, .int (nI wn)])), (w1, .inl (cI, 31, .inl wf))]) (hS : va_S A s.heap H locs) (hm67 : k - i < n67), W p l e (headSpec (Cond.code y_NU_play prog_1_method_9_code 6 (some .int) :: wsA) { frames := 1, cells := 0, slots := 0, locals := 22 }).room s m ([.ref x0, .int (nI k)] : List Value).toArray below meth c H locs 0 0 Q (F0 m 67 ls []) := by
          clear hl hP hD hS
          intro n67
          induction n67 with
          | zero => intro i mv hi hmv H locs ls hl hP hD hS hm; exact absurd hm (Nat.not_lt_zero _)
          | succ n67 hloop4_ih =>
            intro i mv hi hmv H locs ls hl hP hD hS hm67
            refine lv_iload hx hb d_NU_play_67 (lv_at hl 3 rfl) ?_
            refine lv_iload_n hx hb d_NU_play_69 rfl (lv_at hl 1 rfl) ?_
            refine lv_icmp_ge (tgt := 122) hx hb d_NU_play_70 (by decide) (fun hb5 => ?_) (fun hb5 => ?_)
            · skip
              replace hb5 := cv_le (a := k) (b := i) (by omega) (by omega) hb5
              refine lv_iload_n hx hb d_NU_play_122 rfl (lv_at hl 2 rfl) ?_
              have hP9 := hP.sub (ws' := [(x0, .inr (0, [.ref n0, .ref f0, .ref w0, .ref u0, .ref q0])), (n0, .inr (1, [.ref n1, .ref n2, .int (nI nz), .int nf])), (n1, .inl (cI, 8, .inl np)), (n2, .inl (cI, 8, .inl nq)), (w0, .inr (3, [.ref w1, .int (nI wn)])), (w1, .inl (cI, 31, .inl wf))]) [0, 1, 2, 3, 4, 5] rfl
              have hD9 := hD.sub (ws' := [(x0, .inr (0, [.ref n0, .ref f0, .ref w0, .ref u0, .ref q0])), (n0, .inr (1, [.ref n1, .ref n2, .int (nI nz), .int nf])), (n1, .inl (cI, 8, .inl np)), (n2, .inl (cI, 8, .inl nq)), (w0, .inr (3, [.ref w1, .int (nI wn)])), (w1, .inl (cI, 31, .inl wf))]) [0, 1, 2, 3, 4, 5] (by decide) rfl
              subst hQ
              exact W.iret (v := mv) hx hb hr (fun t9 ht9 hW => ⟨⟨mv, (), rfl, trivial, by rw [ht9]; exact hP9, hD9⟩, hS.F ht9⟩) hS.2.2 d_NU_play_123
            · skip
              replace hb5 := cv_nle (a := k) (b := i) (by omega) (by omega) hb5
              refine lv_aload_n hx hb d_NU_play_73 rfl (lv_at hl 0 rfl) ?_
              refine va_get (D := (dC, dI)) (ci := 0) (v := .ref w0) (C := "NetUnfolder") (T := T_NU) (N := 5) hx hb ht in_NU hown hK hP 0 rfl rfl 2 (by decide) (ht _ wd_2_38) (fun _ h9 => h9) rfl d_NU_play_74 ?_
              refine lv_iload hx hb d_NU_play_77 (lv_at hl 3 rfl) ?_
              have hPc := hP.sub (ws' := [(w0, .inr (3, [.ref w1, .int (nI wn)])), (w1, .inl (cI, 31, .inl wf))]) [4, 5] rfl
              have hDc := hD.sub (ws' := [(w0, .inr (3, [.ref w1, .int (nI wn)])), (w1, .inl (cI, 31, .inl wf))]) [4, 5] (by decide) rfl
              have hFc := pu_free hS hA
              refine va_calli (va_runV (C := "NetUnfolder$Way") (As := [.int (nI i)]) (rest := []) ⟨hx, hb, hml, hown, ht⟩ (r_Wa_step l dC dI cI cL cZ _ w0 w1 wn wf i (by first | assumption | omega | trivial | exact AllLt.zero | exact AllN.zero | exact AllM.zero | exact Or.inl rfl | exact Or.inr rfl) (by first | assumption | omega | trivial | exact AllLt.zero | exact AllN.zero | exact AllM.zero | exact Or.inl rfl | exact Or.inr rfl)) (cwV 1 ht (good_V wd_2_198 wd_2_199 wd_2_200 wd_1_4 wd_2_201) rfl rfl rfl (by decide +kernel) ⟨Nat.le_of_ble_eq_true rfl, Nat.le_of_ble_eq_true rfl⟩) ⟨fun a U g mk q => by obtain ⟨q0, q1, qP, qK, qD, qN⟩ := q; exact ⟨q0, q1, qP, va_K.moved (u := U) (U := U.calling g mk a) (Vm.Alike.refl U.vm) qK, qD, NwA.same (u := U) rfl qN⟩, (va_recv (q0 := 4) (ci := 3) hK hP rfl rfl), fun U hU hW => ⟨rfl, by rw [hU], by rw [hU]; exact hPc, va_K.moved hW.alike hK, hDc.weaken (fun _ _ _ _ => trivial), NwA.warm hW hN⟩⟩ rfl rfl hl.1 rfl (lv_room (Nat.le_of_ble_eq_true rfl)) d_NU_play_79 ⟨Nat.le_of_ble_eq_true rfl, Nat.le_of_ble_eq_true rfl⟩) hS (fun q _ h => hFc q h) hFc (fun r8 u9 t9 H6 locs ht9 hvm hw7 hB hz1 hk1 hSn => ?_)
              replace hP : va_P (dC, dI) clA [(x0, .inr (0, [.ref n0, .ref f0, .ref w0, .ref u0, .ref q0])), (n0, .inr (1, [.ref n1, .ref n2, .int (nI nz), .int nf])), (n1, .inl (cI, 8, .inl np)), (n2, .inl (cI, 8, .inl nq)), (w0, .inr (3, [.ref w1, .int (nI wn)])), (w1, .inl (cI, 31, .inl wf))] H6 := pu_keep hP hk1
              replace hS := hSn
              clear hSn hPc hDc hFc hk1 hz1 ht9 hvm hB
              refine W.cs (cells' := 0) (slots' := 0) rfl rfl ?_
              subst hw7
              refine lv_istore (lv' := [(5, .int (wf i)), (0, .ref x0), (1, .int (nI k)), (3, .int mv), (4, .int (nI i))]) hx hb d_NU_play_82 hl (by decide) rfl (fun ls hln => ?_)
              replace hl : lv_has ls 6 [(5, .int (wf i)), (0, .ref x0), (1, .int (nI k)), (3, .int mv), (4, .int (nI i))] := hln
              clear hln
              refine lv_aload_n hx hb d_NU_play_84 rfl (lv_at hl 1 rfl) ?_
              refine va_get (D := (dC, dI)) (ci := 0) (v := .ref n0) (C := "NetUnfolder") (T := T_NU) (N := 5) hx hb ht in_NU hown hK hP 0 rfl rfl 0 (by decide) (ht _ wd_2_36) (fun _ h9 => h9) rfl d_NU_play_85 ?_
              refine lv_iload_n hx hb d_NU_play_88 rfl (lv_at hl 3 rfl) ?_
              refine lv_iload hx hb d_NU_play_89 (lv_at hl 0 rfl) ?_
              have hPc := hP.sub (ws' := [(n0, .inr (1, [.ref n1, .ref n2, .int (nI nz), .int nf])), (n1, .inl (cI, 8, .inl np))]) [1, 2] rfl
              have hDc := hD.sub (ws' := [(n0, .inr (1, [.ref n1, .ref n2, .int (nI nz), .int nf])), (n1, .inl (cI, 8, .inl np))]) [1, 2] (by decide) rfl
              have hFc := pu_free hS hA
              refine va_calli (va_runV (C := "NetUnfolder$Net") (As := [.int mv, .int (wf i)]) (rest := []) ⟨hx, hb, hml, hown, ht⟩ (r_Ne_enables l dC dI cI cL cZ _ n0 n1 n2 nz nf np mv (wf i) (by first | assumption | omega | trivial | exact AllLt.zero | exact AllN.zero | exact AllM.zero | exact Or.inl rfl | exact Or.inr rfl)) (cwV 2 ht (good_V wd_3_229 wd_3_230 wd_3_231 wd_1_2 wd_3_232) rfl rfl rfl (by decide +kernel) ⟨Nat.le_of_ble_eq_true rfl, Nat.le_of_ble_eq_true rfl⟩) ⟨fun a U g mk q => by obtain ⟨q0, q1, qP, qK, qD, qN⟩ := q; exact ⟨q0, q1, qP, va_K.moved (u := U) (U := U.calling g mk a) (Vm.Alike.refl U.vm) qK, qD, NwA.same (u := U) rfl qN⟩, (va_recv (q0 := 1) (ci := 1) hK hP rfl rfl), fun U hU hW => ⟨rfl, by rw [hU], by rw [hU]; exact hPc, va_K.moved hW.alike hK, hDc.weaken (fun _ _ _ _ => trivial), NwA.warm hW hN⟩⟩ rfl rfl hl.1 rfl (lv_room (Nat.le_of_ble_eq_true rfl)) d_NU_play_91 ⟨Nat.le_of_ble_eq_true rfl, Nat.le_of_ble_eq_true rfl⟩) hS (fun q _ h => hFc q h) hFc (fun r11 u9 t9 H9 locs ht9 hvm hw10 hB hz1 hk1 hSn => ?_)
              replace hP : va_P (dC, dI) clA [(x0, .inr (0, [.ref n0, .ref f0, .ref w0, .ref u0, .ref q0])), (n0, .inr (1, [.ref n1, .ref n2, .int (nI nz), .int nf])), (n1, .inl (cI, 8, .inl np)), (n2, .inl (cI, 8, .inl nq)), (w0, .inr (3, [.ref w1, .int (nI wn)])), (w1, .inl (cI, 31, .inl wf))] H9 := pu_keep hP hk1
              replace hS := hSn
              clear hSn hPc hDc hFc hk1 hz1 ht9 hvm hB
              refine W.cs (cells' := 0) (slots' := 0) rfl rfl ?_
              have hr12 := hw10
              refine lv_if_ne (tgt := 105) hx hb d_NU_play_94 (by decide) (fun hb13 => ?_) (fun hb13 => ?_)
              · skip
                obtain ⟨j14_r, j14_p⟩ := hr12.resolve_right (fun q => hb13 q.1)
                have j14_p0 := j14_p
                obtain ⟨j14, j14_l, j14_e, -⟩ := j14_p
                refine lv_aload_n hx hb d_NU_play_105 rfl (lv_at hl 1 rfl) ?_
                refine va_get (D := (dC, dI)) (ci := 0) (v := .ref n0) (C := "NetUnfolder") (T := T_NU) (N := 5) hx hb ht in_NU hown hK hP 0 rfl rfl 0 (by decide) (ht _ wd_2_36) (fun _ h9 => h9) rfl d_NU_play_106 ?_
                refine lv_iload_n hx hb d_NU_play_109 rfl (lv_at hl 3 rfl) ?_
                refine lv_iload hx hb d_NU_play_110 (lv_at hl 0 rfl) ?_
                refine ci_i (y := nI j14) j14_e ?_
                have hPc := hP.sub (ws' := [(n0, .inr (1, [.ref n1, .ref n2, .int (nI nz), .int nf])), (n1, .inl (cI, 8, .inl np)), (n2, .inl (cI, 8, .inl nq))]) [1, 2, 3] rfl
                have hDc := hD.sub (ws' := [(n0, .inr (1, [.ref n1, .ref n2, .int (nI nz), .int nf])), (n1, .inl (cI, 8, .inl np)), (n2, .inl (cI, 8, .inl nq))]) [1, 2, 3] (by decide) rfl
                have hFc := pu_free hS hA
                refine va_calli (va_runV (C := "NetUnfolder$Net") (As := [.int mv, .int (nI j14)]) (rest := []) ⟨hx, hb, hml, hown, ht⟩ (r_Ne_fire l dC dI cI cL cZ _ n0 n1 n2 nz nf np nq mv j14 (by first | assumption | omega | trivial | exact AllLt.zero | exact AllN.zero | exact AllM.zero | exact Or.inl rfl | exact Or.inr rfl)) (cwV 2 ht (good_V wd_3_233 wd_2_177 wd_2_178 wd_1_2 wd_2_179) rfl rfl rfl (by decide +kernel) ⟨Nat.le_of_ble_eq_true rfl, Nat.le_of_ble_eq_true rfl⟩) ⟨fun a U g mk q => by obtain ⟨q0, q1, qP, qK, qD, qN⟩ := q; exact ⟨q0, q1, qP, va_K.moved (u := U) (U := U.calling g mk a) (Vm.Alike.refl U.vm) qK, qD, NwA.same (u := U) rfl qN⟩, (va_recv (q0 := 1) (ci := 1) hK hP rfl rfl), fun U hU hW => ⟨rfl, by rw [hU], by rw [hU]; exact hPc, va_K.moved hW.alike hK, hDc.weaken (fun _ _ _ _ => trivial), NwA.warm hW hN⟩⟩ rfl rfl hl.1 rfl (lv_room (Nat.le_of_ble_eq_true rfl)) d_NU_play_112 ⟨Nat.le_of_ble_eq_true rfl, Nat.le_of_ble_eq_true rfl⟩) hS (fun q _ h => hFc q h) hFc (fun r17 u9 t9 H15 locs ht9 hvm hw16 hB hz1 hk1 hSn => ?_)
                replace hP : va_P (dC, dI) clA [(x0, .inr (0, [.ref n0, .ref f0, .ref w0, .ref u0, .ref q0])), (n0, .inr (1, [.ref n1, .ref n2, .int (nI nz), .int nf])), (n1, .inl (cI, 8, .inl np)), (n2, .inl (cI, 8, .inl nq)), (w0, .inr (3, [.ref w1, .int (nI wn)])), (w1, .inl (cI, 31, .inl wf))] H15 := pu_keep hP hk1
                replace hS := hSn
                clear hSn hPc hDc hFc hk1 hz1 ht9 hvm hB
                refine W.cs (cells' := 0) (slots' := 0) rfl rfl ?_
                subst hw16
                refine lv_istore_n (lv' := [(3, .int ((mv &&& ((np j14) ^^^ (-1))) ||| (nq j14))), (5, .int (wf i)), (0, .ref x0), (1, .int (nI k)), (4, .int (nI i))]) hx hb d_NU_play_115 rfl hl (by decide) rfl (fun ls hln => ?_)
                replace hl : lv_has ls 6 [(3, .int ((mv &&& ((np j14) ^^^ (-1))) ||| (nq j14))), (5, .int (wf i)), (0, .ref x0), (1, .int (nI k)), (4, .int (nI i))] := hln
                clear hln
                refine lv_iinc (k := 4) (v := nI (i + 1)) (lv' := [(4, .int (nI (i + 1))), (3, .int ((mv &&& ((np j14) ^^^ (-1))) ||| (nq j14))), (5, .int (wf i)), (0, .ref x0), (1, .int (nI k))]) hx hb d_NU_play_116 hl rfl (nI_1 _) (by decide) rfl (fun ls hln => ?_)
                replace hl : lv_has ls 6 [(4, .int (nI (i + 1))), (3, .int ((mv &&& ((np j14) ^^^ (-1))) ||| (nq j14))), (5, .int (wf i)), (0, .ref x0), (1, .int (nI k))] := hln
                clear hln
                refine lv_goto (tgt := 67) hx hb d_NU_play_119 (by decide) ?_
                exact hloop4_ih (i + 1) ((mv &&& ((np j14) ^^^ (-1))) ||| (nq j14)) (by first | assumption | omega | trivial | exact AllLt.zero | exact AllN.zero | exact AllM.zero | exact Or.inl rfl | exact Or.inr rfl) (pM_s hmv j14_e (by omega)) _ _ ls (lv_sub hl [3, 4, 1, 0] rfl) (hP.sub [0, 1, 2, 3, 4, 5] rfl) (hD.sub [0, 1, 2, 3, 4, 5] (by decide) rfl) hS (by omega)
              · skip
                exact absurd (hmv ▸ hok i (by omega)) ((hr12.resolve_left (fun q => by rw [hb13] at q; exact absurd q.1 (by decide))).2)
        exact hloop4 ((k - 0) + 1) 0 nf (by first | assumption | omega | trivial | exact AllLt.zero | exact AllN.zero | exact AllM.zero | exact Or.inl rfl | exact Or.inr rfl) rfl _ _ ls (lv_sub hl [3, 4, 1, 0] rfl) hP hD hS (Nat.lt_succ_self _)
      · skip
        replace hb3 := cv_nle (a := k) (b := wn) (by omega) (by omega) hb3
        exfalso; omega

set_option maxHeartbeats 4000000 in
set_option maxRecDepth 100000 in
theorem t_NU_play_IAE0 (l : Launch) (hfl : l.flags = flags0) (dC : Nat → ClassId) (dI : Nat → Nat → Nat) (cI cL cZ : ClassId) (sz : Nat) (x0 : Nat) (u0 : Nat) (n0 : Nat) (w0 : Nat) (w1 : Nat) (wl : Int32) (f0 : Nat) (q0 : Nat) (x : Int32) (hx0 : x < 0) : tx_Met l y_NU_play (Cond.code y_NU_play prog_1_method_9_code 6 (some .int) :: wsA) { frames := 6, cells := 1, slots := 6, locals := 96 } (va_Pc [.ref x0, .int x] (fun U => U.heap.size = sz ∧ va_P (dC, dI) clA [(x0, .inr (0, [.ref n0, .ref f0, .ref w0, .ref u0, .ref q0])), (w0, .inr (3, [.ref w1, .int wl]))] U.heap ∧ va_K (dC, dI) clA [(cI, .int), (cL, .long), (cZ, .boolean)] U ∧ va_D (fun _ => True) [(x0, .inr (0, [.ref n0, .ref f0, .ref w0, .ref u0, .ref q0])), (w0, .inr (3, [.ref w1, .int wl]))] ∧ NwA U ∧ ThA (fun _ => False) U U.heap)) (tx_Q "java/lang/IllegalArgumentException") 1 6 := by
  refine tx_Met.ofW (cc := prog_1_method_9_code) (maxL := 6) (ret := (some .int)) (by decide) rfl ?_
  intro p e s m args below meth c s₁ B hml hv
  obtain ⟨rfl, hsz, hP, hK, hD0, hN, hT⟩ := hv
  have hx := B.exec
  have hb := B.bytes
  have hr := B.returns
  have ht : ∀ w ∈ wsA, w.before _ s = true := fun w h => atoms_spec (ws := (Cond.code y_NU_play prog_1_method_9_code 6 (some .int) :: wsA)) B.pre w (List.mem_cons_of_mem _ h)
  have hown : s.vm.findClass "NetUnfolder" = some m.cls := findClass_of_methodNamed B.named
  have hlocks := B.notSynchronized
  have hout := B.noHandlers (atoms_spec (ws := (Cond.code y_NU_play prog_1_method_9_code 6 (some .int) :: wsA)) B.pre _ List.mem_cons_self)
  have htr := Launch.traces_off hfl B.admits
  subst hsz
  have hD := hD0
  have hS : va_S (fun q => s.heap.size ≤ q) s.heap s.heap [] := va_S.rf
  have hA : ∀ q : Nat, s.heap.size ≤ q → (fun q => s.heap.size ≤ q) q := fun q h => h
  have hl := lv_entry ([.ref x0, .int x]) (n := 6) (Nat.le_of_ble_eq_true rfl)
  rw [lg_entry_eq]
  generalize (lg_sl ([.ref x0, .int x]) ++ List.replicate (6 - (lg_sl ([.ref x0, .int x])).length) Slot.unset).toArray = ls at hl ⊢
  replace hl : lv_has ls 6 [(0, .ref x0), (1, .int x)] := hl
  refine W_Q (fun Q hQ => ?_)
  refine lv_aload_n hx hb d_NU_play_0 rfl (lv_at hl 0 rfl) ?_
  refine va_get (D := (dC, dI)) (ci := 0) (v := .ref w0) (C := "NetUnfolder") (T := T_NU) (N := 5) hx hb ht in_NU hown hK hP 0 rfl rfl 2 (by decide) (ht _ wd_2_38) (fun _ h9 => h9) rfl d_NU_play_1 ?_
  refine va_get (D := (dC, dI)) (ci := 3) (v := .int wl) (C := "NetUnfolder$Way") (T := T_Wa) (N := 2) hx hb ht in_Wa hown hK hP 1 rfl rfl 1 (by decide) (ht _ wd_1_146) (fun _ h9 => h9) rfl d_NU_play_4 ?_
  refine lv_iconst (v := (-1)) hx hb d_NU_play_7 (by decide) ?_
  refine lv_icmp_eq (tgt := 15) hx hb d_NU_play_8 (by decide) (fun hb1 => ?_) (fun hb1 => ?_)
  · skip
    refine lv_iconst (v := 0) hx hb d_NU_play_15 (by decide) ?_
    refine lv_istore_n (lv' := [(2, .int 0), (0, .ref x0), (1, .int x)]) hx hb d_NU_play_16 rfl hl (by decide) rfl (fun ls hln => ?_)
    replace hl : lv_has ls 6 [(2, .int 0), (0, .ref x0), (1, .int x)] := hln
    clear hln
    refine lv_iload_n hx hb d_NU_play_17 rfl (lv_at hl 2 rfl) ?_
    refine lv_if_lt (tgt := 36) hx hb d_NU_play_18 (by decide) (fun hb2 => ?_) (fun hb2 => ?_)
    · skip
      refine va_forget (fun q hq => hS.2.2 q hq) ?_
      refine W.newc hx hb hown (ht _ wd_3_13) (ht _ wd_3_14) (ht _ wd_1_14) (g := F0 m 36 ls []) rfl d_NU_play_36 (Nat.le_of_ble_eq_true rfl) (Nat.le_of_ble_eq_true rfl) (fun cX kX hfX hkX _ _ => ?_)
      refine W.eq (g2 := F0 m 39 ls (.ref _ :: [])) rfl ?_
      refine lv_dup hx hb d_NU_play_39 rfl ?_
      refine W.cs (cells' := 1) (slots' := 6) rfl rfl ?_
      subst hQ
      exact tx_throw0 (own := "NetUnfolder") (cls := "java/lang/IllegalArgumentException") (names := ["java/lang/RuntimeException", "java/lang/Exception"]) (ic := 52) hx hb htr hown (by decide +kernel) (by decide +kernel) (fun a ha => own_before (oa_IAE a ha) ht hT) hfX hkX (by simp) hS.1 (by rw [hml]; exact hl.1) d_NU_play_40 d_NU_play_43 hout (Nat.le_of_ble_eq_true rfl) (Nat.le_of_ble_eq_true rfl) hlocks (fun U _ h => h)
    · skip
      exact absurd hx0 hb2
  · skip
    refine lv_iconst (v := 1) hx hb d_NU_play_11 (by decide) ?_
    refine lv_goto (tgt := 16) hx hb d_NU_play_12 (by decide) ?_
    refine lv_istore_n (lv' := [(2, .int 1), (0, .ref x0), (1, .int x)]) hx hb d_NU_play_16 rfl hl (by decide) rfl (fun ls hln => ?_)
    replace hl : lv_has ls 6 [(2, .int 1), (0, .ref x0), (1, .int x)] := hln
    clear hln
    refine lv_iload_n hx hb d_NU_play_17 rfl (lv_at hl 2 rfl) ?_
    refine lv_if_lt (tgt := 36) hx hb d_NU_play_18 (by decide) (fun hb3 => ?_) (fun hb3 => ?_)
    · skip
      refine va_forget (fun q hq => hS.2.2 q hq) ?_
      refine W.newc hx hb hown (ht _ wd_3_13) (ht _ wd_3_14) (ht _ wd_1_14) (g := F0 m 36 ls []) rfl d_NU_play_36 (Nat.le_of_ble_eq_true rfl) (Nat.le_of_ble_eq_true rfl) (fun cX kX hfX hkX _ _ => ?_)
      refine W.eq (g2 := F0 m 39 ls (.ref _ :: [])) rfl ?_
      refine lv_dup hx hb d_NU_play_39 rfl ?_
      refine W.cs (cells' := 1) (slots' := 6) rfl rfl ?_
      subst hQ
      exact tx_throw0 (own := "NetUnfolder") (cls := "java/lang/IllegalArgumentException") (names := ["java/lang/RuntimeException", "java/lang/Exception"]) (ic := 52) hx hb htr hown (by decide +kernel) (by decide +kernel) (fun a ha => own_before (oa_IAE a ha) ht hT) hfX hkX (by simp) hS.1 (by rw [hml]; exact hl.1) d_NU_play_40 d_NU_play_43 hout (Nat.le_of_ble_eq_true rfl) (Nat.le_of_ble_eq_true rfl) hlocks (fun U _ h => h)
    · skip
      exact absurd hx0 hb3

set_option maxHeartbeats 4000000 in
set_option maxRecDepth 100000 in
theorem t_NU_play_IAE1 (l : Launch) (hfl : l.flags = flags0) (dC : Nat → ClassId) (dI : Nat → Nat → Nat) (cI cL cZ : ClassId) (sz : Nat) (x0 : Nat) (u0 : Nat) (n0 : Nat) (w0 : Nat) (w1 : Nat) (f0 : Nat) (q0 : Nat) (wn : Nat) (k : Nat) (hwn : wn ≤ 31) (hk : wn < k) (hk2 : k < 2 ^ 31) : tx_Met l y_NU_play (Cond.code y_NU_play prog_1_method_9_code 6 (some .int) :: wsA) { frames := 6, cells := 1, slots := 6, locals := 96 } (va_Pc [.ref x0, .int (nI k)] (fun U => U.heap.size = sz ∧ va_P (dC, dI) clA [(x0, .inr (0, [.ref n0, .ref f0, .ref w0, .ref u0, .ref q0])), (w0, .inr (3, [.ref w1, .int (nI wn)]))] U.heap ∧ va_K (dC, dI) clA [(cI, .int), (cL, .long), (cZ, .boolean)] U ∧ va_D (fun _ => True) [(x0, .inr (0, [.ref n0, .ref f0, .ref w0, .ref u0, .ref q0])), (w0, .inr (3, [.ref w1, .int (nI wn)]))] ∧ NwA U ∧ ThA (fun _ => False) U U.heap)) (tx_Q "java/lang/IllegalArgumentException") 1 6 := by
  refine tx_Met.ofW (cc := prog_1_method_9_code) (maxL := 6) (ret := (some .int)) (by decide) rfl ?_
  intro p e s m args below meth c s₁ B hml hv
  obtain ⟨rfl, hsz, hP, hK, hD0, hN, hT⟩ := hv
  have hx := B.exec
  have hb := B.bytes
  have hr := B.returns
  have ht : ∀ w ∈ wsA, w.before _ s = true := fun w h => atoms_spec (ws := (Cond.code y_NU_play prog_1_method_9_code 6 (some .int) :: wsA)) B.pre w (List.mem_cons_of_mem _ h)
  have hown : s.vm.findClass "NetUnfolder" = some m.cls := findClass_of_methodNamed B.named
  have hlocks := B.notSynchronized
  have hout := B.noHandlers (atoms_spec (ws := (Cond.code y_NU_play prog_1_method_9_code 6 (some .int) :: wsA)) B.pre _ List.mem_cons_self)
  have htr := Launch.traces_off hfl B.admits
  subst hsz
  have hD := hD0
  have hS : va_S (fun q => s.heap.size ≤ q) s.heap s.heap [] := va_S.rf
  have hA : ∀ q : Nat, s.heap.size ≤ q → (fun q => s.heap.size ≤ q) q := fun q h => h
  have hl := lv_entry ([.ref x0, .int (nI k)]) (n := 6) (Nat.le_of_ble_eq_true rfl)
  rw [lg_entry_eq]
  generalize (lg_sl ([.ref x0, .int (nI k)]) ++ List.replicate (6 - (lg_sl ([.ref x0, .int (nI k)])).length) Slot.unset).toArray = ls at hl ⊢
  replace hl : lv_has ls 6 [(0, .ref x0), (1, .int (nI k))] := hl
  refine W_Q (fun Q hQ => ?_)
  refine lv_aload_n hx hb d_NU_play_0 rfl (lv_at hl 0 rfl) ?_
  refine va_get (D := (dC, dI)) (ci := 0) (v := .ref w0) (C := "NetUnfolder") (T := T_NU) (N := 5) hx hb ht in_NU hown hK hP 0 rfl rfl 2 (by decide) (ht _ wd_2_38) (fun _ h9 => h9) rfl d_NU_play_1 ?_
  refine va_get (D := (dC, dI)) (ci := 3) (v := .int (nI wn)) (C := "NetUnfolder$Way") (T := T_Wa) (N := 2) hx hb ht in_Wa hown hK hP 1 rfl rfl 1 (by decide) (ht _ wd_1_146) (fun _ h9 => h9) rfl d_NU_play_4 ?_
  refine lv_iconst (v := (-1)) hx hb d_NU_play_7 (by decide) ?_
  refine lv_icmp_eq (tgt := 15) hx hb d_NU_play_8 (by decide) (fun hb1 => ?_) (fun hb1 => ?_)
  · skip
    exact (cv_nm1 (by omega) hb1).elim
  · skip
    refine lv_iconst (v := 1) hx hb d_NU_play_11 (by decide) ?_
    refine lv_goto (tgt := 16) hx hb d_NU_play_12 (by decide) ?_
    refine lv_istore_n (lv' := [(2, .int 1), (0, .ref x0), (1, .int (nI k))]) hx hb d_NU_play_16 rfl hl (by decide) rfl (fun ls hln => ?_)
    replace hl : lv_has ls 6 [(2, .int 1), (0, .ref x0), (1, .int (nI k))] := hln
    clear hln
    refine lv_iload_n hx hb d_NU_play_17 rfl (lv_at hl 2 rfl) ?_
    refine lv_if_lt (tgt := 36) hx hb d_NU_play_18 (by decide) (fun hb2 => ?_) (fun hb2 => ?_)
    · skip
      replace hb2 := cv_lt (a := k) (b := 0) (by omega) (by omega) hb2
      exfalso; omega
    · skip
      replace hb2 := cv_nlt (a := k) (b := 0) (by omega) (by omega) hb2
      refine lv_iload_n hx hb d_NU_play_21 rfl (lv_at hl 0 rfl) ?_
      refine lv_if_eq (tgt := 44) hx hb d_NU_play_22 (by decide) (fun h => absurd h (by decide)) (fun _ => ?_)
      refine lv_iload_n hx hb d_NU_play_25 rfl (lv_at hl 2 rfl) ?_
      refine lv_aload_n hx hb d_NU_play_26 rfl (lv_at hl 1 rfl) ?_
      refine va_get (D := (dC, dI)) (ci := 0) (v := .ref w0) (C := "NetUnfolder") (T := T_NU) (N := 5) hx hb ht in_NU hown hK hP 0 rfl rfl 2 (by decide) (ht _ wd_2_38) (fun _ h9 => h9) rfl d_NU_play_27 ?_
      refine va_get (D := (dC, dI)) (ci := 3) (v := .int (nI wn)) (C := "NetUnfolder$Way") (T := T_Wa) (N := 2) hx hb ht in_Wa hown hK hP 1 rfl rfl 1 (by decide) (ht _ wd_1_146) (fun _ h9 => h9) rfl d_NU_play_30 ?_
      refine lv_icmp_le (tgt := 44) hx hb d_NU_play_33 (by decide) (fun hb3 => ?_) (fun hb3 => ?_)
      · skip
        replace hb3 := cv_le (a := k) (b := wn) (by omega) (by omega) hb3
        exfalso; omega
      · skip
        replace hb3 := cv_nle (a := k) (b := wn) (by omega) (by omega) hb3
        refine va_forget (fun q hq => hS.2.2 q hq) ?_
        refine W.newc hx hb hown (ht _ wd_3_13) (ht _ wd_3_14) (ht _ wd_1_14) (g := F0 m 36 ls []) rfl d_NU_play_36 (Nat.le_of_ble_eq_true rfl) (Nat.le_of_ble_eq_true rfl) (fun cX kX hfX hkX _ _ => ?_)
        refine W.eq (g2 := F0 m 39 ls (.ref _ :: [])) rfl ?_
        refine lv_dup hx hb d_NU_play_39 rfl ?_
        refine W.cs (cells' := 1) (slots' := 6) rfl rfl ?_
        subst hQ
        exact tx_throw0 (own := "NetUnfolder") (cls := "java/lang/IllegalArgumentException") (names := ["java/lang/RuntimeException", "java/lang/Exception"]) (ic := 52) hx hb htr hown (by decide +kernel) (by decide +kernel) (fun a ha => own_before (oa_IAE a ha) ht hT) hfX hkX (by simp) hS.1 (by rw [hml]; exact hl.1) d_NU_play_40 d_NU_play_43 hout (Nat.le_of_ble_eq_true rfl) (Nat.le_of_ble_eq_true rfl) hlocks (fun U _ h => h)

set_option maxHeartbeats 4000000 in
set_option maxRecDepth 100000 in
theorem t_NU_play_ISE0 (l : Launch) (hfl : l.flags = flags0) (dC : Nat → ClassId) (dI : Nat → Nat → Nat) (cI cL cZ : ClassId) (sz : Nat) (x0 : Nat) (u0 : Nat) (n0 : Nat) (w0 : Nat) (w1 : Nat) (f0 : Nat) (q0 : Nat) (k : Nat) (hk2 : k < 2 ^ 31) : tx_Met l y_NU_play (Cond.code y_NU_play prog_1_method_9_code 6 (some .int) :: wsA) { frames := 6, cells := 1, slots := 6, locals := 96 } (va_Pc [.ref x0, .int (nI k)] (fun U => U.heap.size = sz ∧ va_P (dC, dI) clA [(x0, .inr (0, [.ref n0, .ref f0, .ref w0, .ref u0, .ref q0])), (w0, .inr (3, [.ref w1, .int (-1)]))] U.heap ∧ va_K (dC, dI) clA [(cI, .int), (cL, .long), (cZ, .boolean)] U ∧ va_D (fun _ => True) [(x0, .inr (0, [.ref n0, .ref f0, .ref w0, .ref u0, .ref q0])), (w0, .inr (3, [.ref w1, .int (-1)]))] ∧ NwA U ∧ ThA (fun _ => False) U U.heap)) (tx_Q "java/lang/IllegalStateException") 1 6 := by
  refine tx_Met.ofW (cc := prog_1_method_9_code) (maxL := 6) (ret := (some .int)) (by decide) rfl ?_
  intro p e s m args below meth c s₁ B hml hv
  obtain ⟨rfl, hsz, hP, hK, hD0, hN, hT⟩ := hv
  have hx := B.exec
  have hb := B.bytes
  have hr := B.returns
  have ht : ∀ w ∈ wsA, w.before _ s = true := fun w h => atoms_spec (ws := (Cond.code y_NU_play prog_1_method_9_code 6 (some .int) :: wsA)) B.pre w (List.mem_cons_of_mem _ h)
  have hown : s.vm.findClass "NetUnfolder" = some m.cls := findClass_of_methodNamed B.named
  have hlocks := B.notSynchronized
  have hout := B.noHandlers (atoms_spec (ws := (Cond.code y_NU_play prog_1_method_9_code 6 (some .int) :: wsA)) B.pre _ List.mem_cons_self)
  have htr := Launch.traces_off hfl B.admits
  subst hsz
  have hD := hD0
  have hS : va_S (fun q => s.heap.size ≤ q) s.heap s.heap [] := va_S.rf
  have hA : ∀ q : Nat, s.heap.size ≤ q → (fun q => s.heap.size ≤ q) q := fun q h => h
  have hl := lv_entry ([.ref x0, .int (nI k)]) (n := 6) (Nat.le_of_ble_eq_true rfl)
  rw [lg_entry_eq]
  generalize (lg_sl ([.ref x0, .int (nI k)]) ++ List.replicate (6 - (lg_sl ([.ref x0, .int (nI k)])).length) Slot.unset).toArray = ls at hl ⊢
  replace hl : lv_has ls 6 [(0, .ref x0), (1, .int (nI k))] := hl
  refine W_Q (fun Q hQ => ?_)
  refine lv_aload_n hx hb d_NU_play_0 rfl (lv_at hl 0 rfl) ?_
  refine va_get (D := (dC, dI)) (ci := 0) (v := .ref w0) (C := "NetUnfolder") (T := T_NU) (N := 5) hx hb ht in_NU hown hK hP 0 rfl rfl 2 (by decide) (ht _ wd_2_38) (fun _ h9 => h9) rfl d_NU_play_1 ?_
  refine va_get (D := (dC, dI)) (ci := 3) (v := .int (-1)) (C := "NetUnfolder$Way") (T := T_Wa) (N := 2) hx hb ht in_Wa hown hK hP 1 rfl rfl 1 (by decide) (ht _ wd_1_146) (fun _ h9 => h9) rfl d_NU_play_4 ?_
  refine lv_iconst (v := (-1)) hx hb d_NU_play_7 (by decide) ?_
  refine lv_icmp_eq (tgt := 15) hx hb d_NU_play_8 (by decide) (fun _ => ?_) (fun h => (h (by decide)).elim)
  refine lv_iconst (v := 0) hx hb d_NU_play_15 (by decide) ?_
  refine lv_istore_n (lv' := [(2, .int 0), (0, .ref x0), (1, .int (nI k))]) hx hb d_NU_play_16 rfl hl (by decide) rfl (fun ls hln => ?_)
  replace hl : lv_has ls 6 [(2, .int 0), (0, .ref x0), (1, .int (nI k))] := hln
  clear hln
  refine lv_iload_n hx hb d_NU_play_17 rfl (lv_at hl 2 rfl) ?_
  refine lv_if_lt (tgt := 36) hx hb d_NU_play_18 (by decide) (fun hb1 => ?_) (fun hb1 => ?_)
  · skip
    replace hb1 := cv_lt (a := k) (b := 0) (by omega) (by omega) hb1
    exfalso; omega
  · skip
    replace hb1 := cv_nlt (a := k) (b := 0) (by omega) (by omega) hb1
    refine lv_iload_n hx hb d_NU_play_21 rfl (lv_at hl 0 rfl) ?_
    refine lv_if_eq (tgt := 44) hx hb d_NU_play_22 (by decide) (fun _ => ?_) (fun h => (h (by decide)).elim)
    refine lv_iload_n hx hb d_NU_play_44 rfl (lv_at hl 0 rfl) ?_
    refine lv_if_ne (tgt := 56) hx hb d_NU_play_45 (by decide) (fun h => (h (by decide)).elim) (fun _ => ?_)
    refine va_forget (fun q hq => hS.2.2 q hq) ?_
    refine W.newc hx hb hown (ht _ wd_3_75) (ht _ wd_3_76) (ht _ wd_1_15) (g := F0 m 48 ls []) rfl d_NU_play_48 (Nat.le_of_ble_eq_true rfl) (Nat.le_of_ble_eq_true rfl) (fun cX kX hfX hkX _ _ => ?_)
    refine W.eq (g2 := F0 m 51 ls (.ref _ :: [])) rfl ?_
    refine lv_dup hx hb d_NU_play_51 rfl ?_
    refine W.cs (cells' := 1) (slots' := 6) rfl rfl ?_
    subst hQ
    exact tx_throw0 (own := "NetUnfolder") (cls := "java/lang/IllegalStateException") (names := ["java/lang/RuntimeException", "java/lang/Exception"]) (ic := 59) hx hb htr hown (by decide +kernel) (by decide +kernel) (fun a ha => own_before (oa_ISE a ha) ht hT) hfX hkX (by simp) hS.1 (by rw [hml]; exact hl.1) d_NU_play_52 d_NU_play_55 hout (Nat.le_of_ble_eq_true rfl) (Nat.le_of_ble_eq_true rfl) hlocks (fun U _ h => h)

set_option maxHeartbeats 4000000 in
set_option maxRecDepth 100000 in
theorem t_NU_play_ISE1 (l : Launch) (hfl : l.flags = flags0) (dC : Nat → ClassId) (dI : Nat → Nat → Nat) (cI cL cZ : ClassId) (sz : Nat) (x0 : Nat) (u0 : Nat) (n0 : Nat) (n1 : Nat) (n2 : Nat) (nz : Nat) (nf : Int32) (np : Nat → Int32) (nq : Nat → Int32) (w0 : Nat) (w1 : Nat) (wf : Nat → Int32) (f0 : Nat) (q0 : Nat) (wn : Nat) (k : Nat) (hwn : wn ≤ 31) (hnz : nz ≤ 8) (hk : k ≤ wn) (hno : ¬ ∀ i, i < k → pE np nz (pM np nq wf nf i) (wf i)) : tx_Met l y_NU_play (Cond.code y_NU_play prog_1_method_9_code 6 (some .int) :: wsA) { frames := 6, cells := 1, slots := 6, locals := 96 } (va_Pc [.ref x0, .int (nI k)] (fun U => U.heap.size = sz ∧ va_P (dC, dI) clA [(x0, .inr (0, [.ref n0, .ref f0, .ref w0, .ref u0, .ref q0])), (n0, .inr (1, [.ref n1, .ref n2, .int (nI nz), .int nf])), (n1, .inl (cI, 8, .inl np)), (n2, .inl (cI, 8, .inl nq)), (w0, .inr (3, [.ref w1, .int (nI wn)])), (w1, .inl (cI, 31, .inl wf))] U.heap ∧ va_K (dC, dI) clA [(cI, .int), (cL, .long), (cZ, .boolean)] U ∧ va_D (fun _ => True) [(x0, .inr (0, [.ref n0, .ref f0, .ref w0, .ref u0, .ref q0])), (n0, .inr (1, [.ref n1, .ref n2, .int (nI nz), .int nf])), (n1, .inl (cI, 8, .inl np)), (n2, .inl (cI, 8, .inl nq)), (w0, .inr (3, [.ref w1, .int (nI wn)])), (w1, .inl (cI, 31, .inl wf))] ∧ NwA U ∧ ThA (fun _ => False) U U.heap)) (tx_Q "java/lang/IllegalStateException") 1 6 := by
  refine tx_Met.ofW (cc := prog_1_method_9_code) (maxL := 6) (ret := (some .int)) (by decide) rfl ?_
  intro p e s m args below meth c s₁ B hml hv
  obtain ⟨rfl, hsz, hP, hK, hD0, hN, hT⟩ := hv
  have hx := B.exec
  have hb := B.bytes
  have hr := B.returns
  have ht : ∀ w ∈ wsA, w.before _ s = true := fun w h => atoms_spec (ws := (Cond.code y_NU_play prog_1_method_9_code 6 (some .int) :: wsA)) B.pre w (List.mem_cons_of_mem _ h)
  have hown : s.vm.findClass "NetUnfolder" = some m.cls := findClass_of_methodNamed B.named
  have hlocks := B.notSynchronized
  have hout := B.noHandlers (atoms_spec (ws := (Cond.code y_NU_play prog_1_method_9_code 6 (some .int) :: wsA)) B.pre _ List.mem_cons_self)
  have htr := Launch.traces_off hfl B.admits
  subst hsz
  have hD := hD0
  have hS : va_S (fun q => s.heap.size ≤ q) s.heap s.heap [] := va_S.rf
  have hA : ∀ q : Nat, s.heap.size ≤ q → (fun q => s.heap.size ≤ q) q := fun q h => h
  have hl := lv_entry ([.ref x0, .int (nI k)]) (n := 6) (Nat.le_of_ble_eq_true rfl)
  rw [lg_entry_eq]
  generalize (lg_sl ([.ref x0, .int (nI k)]) ++ List.replicate (6 - (lg_sl ([.ref x0, .int (nI k)])).length) Slot.unset).toArray = ls at hl ⊢
  replace hl : lv_has ls 6 [(0, .ref x0), (1, .int (nI k))] := hl
  refine W_Q (fun Q hQ => ?_)
  refine lv_aload_n hx hb d_NU_play_0 rfl (lv_at hl 0 rfl) ?_
  refine va_get (D := (dC, dI)) (ci := 0) (v := .ref w0) (C := "NetUnfolder") (T := T_NU) (N := 5) hx hb ht in_NU hown hK hP 0 rfl rfl 2 (by decide) (ht _ wd_2_38) (fun _ h9 => h9) rfl d_NU_play_1 ?_
  refine va_get (D := (dC, dI)) (ci := 3) (v := .int (nI wn)) (C := "NetUnfolder$Way") (T := T_Wa) (N := 2) hx hb ht in_Wa hown hK hP 4 rfl rfl 1 (by decide) (ht _ wd_1_146) (fun _ h9 => h9) rfl d_NU_play_4 ?_
  refine lv_iconst (v := (-1)) hx hb d_NU_play_7 (by decide) ?_
  refine lv_icmp_eq (tgt := 15) hx hb d_NU_play_8 (by decide) (fun hb1 => ?_) (fun hb1 => ?_)
  · skip
    exact (cv_nm1 (by omega) hb1).elim
  · skip
    refine lv_iconst (v := 1) hx hb d_NU_play_11 (by decide) ?_
    refine lv_goto (tgt := 16) hx hb d_NU_play_12 (by decide) ?_
    refine lv_istore_n (lv' := [(2, .int 1), (0, .ref x0), (1, .int (nI k))]) hx hb d_NU_play_16 rfl hl (by decide) rfl (fun ls hln => ?_)
    replace hl : lv_has ls 6 [(2, .int 1), (0, .ref x0), (1, .int (nI k))] := hln
    clear hln
    refine lv_iload_n hx hb d_NU_play_17 rfl (lv_at hl 2 rfl) ?_
    refine lv_if_lt (tgt := 36) hx hb d_NU_play_18 (by decide) (fun hb2 => ?_) (fun hb2 => ?_)
    · skip
      replace hb2 := cv_lt (a := k) (b := 0) (by omega) (by omega) hb2
      exfalso; omega
    · skip
      replace hb2 := cv_nlt (a := k) (b := 0) (by omega) (by omega) hb2
      refine lv_iload_n hx hb d_NU_play_21 rfl (lv_at hl 0 rfl) ?_
      refine lv_if_eq (tgt := 44) hx hb d_NU_play_22 (by decide) (fun h => absurd h (by decide)) (fun _ => ?_)
      refine lv_iload_n hx hb d_NU_play_25 rfl (lv_at hl 2 rfl) ?_
      refine lv_aload_n hx hb d_NU_play_26 rfl (lv_at hl 1 rfl) ?_
      refine va_get (D := (dC, dI)) (ci := 0) (v := .ref w0) (C := "NetUnfolder") (T := T_NU) (N := 5) hx hb ht in_NU hown hK hP 0 rfl rfl 2 (by decide) (ht _ wd_2_38) (fun _ h9 => h9) rfl d_NU_play_27 ?_
      refine va_get (D := (dC, dI)) (ci := 3) (v := .int (nI wn)) (C := "NetUnfolder$Way") (T := T_Wa) (N := 2) hx hb ht in_Wa hown hK hP 4 rfl rfl 1 (by decide) (ht _ wd_1_146) (fun _ h9 => h9) rfl d_NU_play_30 ?_
      refine lv_icmp_le (tgt := 44) hx hb d_NU_play_33 (by decide) (fun hb3 => ?_) (fun hb3 => ?_)
      · skip
        replace hb3 := cv_le (a := k) (b := wn) (by omega) (by omega) hb3
        refine lv_iload_n hx hb d_NU_play_44 rfl (lv_at hl 0 rfl) ?_
        refine lv_if_ne (tgt := 56) hx hb d_NU_play_45 (by decide) (fun _ => ?_) (fun h => absurd h (by decide))
        refine lv_aload_n hx hb d_NU_play_56 rfl (lv_at hl 1 rfl) ?_
        refine va_get (D := (dC, dI)) (ci := 0) (v := .ref n0) (C := "NetUnfolder") (T := T_NU) (N := 5) hx hb ht in_NU hown hK hP 0 rfl rfl 0 (by decide) (ht _ wd_2_36) (fun _ h9 => h9) rfl d_NU_play_57 ?_
        refine va_get (D := (dC, dI)) (ci := 1) (v := .int nf) (C := "NetUnfolder$Net") (T := T_Ne) (N := 4) hx hb ht in_Ne hown hK hP 1 rfl rfl 3 (by decide) (ht _ wd_1_44) (fun _ h9 => h9) rfl d_NU_play_60 ?_
        refine lv_istore_n (lv' := [(3, .int nf), (2, .int 1), (0, .ref x0), (1, .int (nI k))]) hx hb d_NU_play_63 rfl hl (by decide) rfl (fun ls hln => ?_)
        replace hl : lv_has ls 6 [(3, .int nf), (2, .int 1), (0, .ref x0), (1, .int (nI k))] := hln
        clear hln
        refine lv_iconst (v := 0) hx hb d_NU_play_64 (by decide) ?_
        refine lv_istore (lv' := [(4, .int 0), (3, .int nf), (2, .int 1), (0, .ref x0), (1, .int (nI k))]) hx hb d_NU_play_65 hl (by decide) rfl (fun ls hln => ?_)
        replace hl : lv_has ls 6 [(4, .int 0), (3, .int nf), (2, .int 1), (0, .ref x0), (1, .int (nI k))] := hln
        clear hln
        have hloop4 : ∀ (n67 : Nat) (i : Nat) (mv : Int32) (hi : i ≤ k) (hmv : mv = pM np nq wf nf i) (hall : ∀ q, q < i → pE np nz (pM np nq wf nf q) (wf q)) (H : Heap) (locs : List Loc) (ls : Array Slot) (hl : lv_has ls 6 [(0, .ref x0), (1, .int (nI k)), (3, .int mv), (4, .int (nI i))]) (hP : va_P (dC, dI) clA [(x0, .inr (0, [.ref n0, .ref f0, .ref w0, .ref u0, .ref q0])), (n0, .inr (1, [.ref n1, .ref n2, .int (nI nz), .int nf])), (n1, .inl (cI, 8, .inl np)), (n2, .inl (cI, 8, .inl nq)), (w0, .inr (3, [.ref w1, .int (nI wn)])), (w1, .inl (cI, 31, .inl wf))] H) (hD : va_D (fun _ => True) [(x0, .inr (0, [.ref n0, .ref f0, .ref w0, .ref u0, .ref q0])), (n0, .inr (1, [.ref n1, .ref n2, .int (nI nz), .int nf])), (n1, .inl (cI, 8, .inl np)), (n2, .inl (cI, 8, .inl nq)), (w0, .inr (3, [.ref w1, .int (nI wn)])), (w1, .inl (cI, 31, .inl wf))]) (hS : va_S (fun q => s.heap.size ≤ q) s.heap H locs) (hm67 : k - i < n67), W p l e (headSpec (Cond.code y_NU_play prog_1_method_9_code 6 (some .int) :: wsA) { frames := 6, cells := 1, slots := 6, locals := 96 }).room s m ([.ref x0, .int (nI k)] : List Value).toArray below meth c H locs 0 0 Q (F0 m 67 ls []) := by
          clear hl hP hD hS
          intro n67
          induction n67 with
          | zero => intro i mv hi hmv hall H locs ls hl hP hD hS hm; exact absurd hm (Nat.not_lt_zero _)
          | succ n67 hloop4_ih =>
            intro i mv hi hmv hall H locs ls hl hP hD hS hm67
            refine lv_iload hx hb d_NU_play_67 (lv_at hl 3 rfl) ?_
            refine lv_iload_n hx hb d_NU_play_69 rfl (lv_at hl 1 rfl) ?_
            refine lv_icmp_ge (tgt := 122) hx hb d_NU_play_70 (by decide) (fun hb5 => ?_) (fun hb5 => ?_)
            · skip
              replace hb5 := cv_le (a := k) (b := i) (by omega) (by omega) hb5
              exact (hno (fun q hq => hall q (by omega))).elim
            · skip
              replace hb5 := cv_nle (a := k) (b := i) (by omega) (by omega) hb5
              refine lv_aload_n hx hb d_NU_play_73 rfl (lv_at hl 0 rfl) ?_
              refine va_get (D := (dC, dI)) (ci := 0) (v := .ref w0) (C := "NetUnfolder") (T := T_NU) (N := 5) hx hb ht in_NU hown hK hP 0 rfl rfl 2 (by decide) (ht _ wd_2_38) (fun _ h9 => h9) rfl d_NU_play_74 ?_
              refine lv_iload hx hb d_NU_play_77 (lv_at hl 3 rfl) ?_
              have hPc := hP.sub (ws' := [(w0, .inr (3, [.ref w1, .int (nI wn)])), (w1, .inl (cI, 31, .inl wf))]) [4, 5] rfl
              have hDc := hD.sub (ws' := [(w0, .inr (3, [.ref w1, .int (nI wn)])), (w1, .inl (cI, 31, .inl wf))]) [4, 5] (by decide) rfl
              have hFc := pu_free hS hA
              refine va_calli (va_runV (C := "NetUnfolder$Way") (As := [.int (nI i)]) (rest := []) ⟨hx, hb, hml, hown, ht⟩ (r_Wa_step l dC dI cI cL cZ _ w0 w1 wn wf i (by first | assumption | omega | trivial | exact AllLt.zero | exact AllN.zero | exact AllM.zero | exact Or.inl rfl | exact Or.inr rfl) (by first | assumption | omega | trivial | exact AllLt.zero | exact AllN.zero | exact AllM.zero | exact Or.inl rfl | exact Or.inr rfl)) (cwV 1 ht (good_V wd_2_198 wd_2_199 wd_2_200 wd_1_4 wd_2_201) rfl rfl rfl (by decide +kernel) ⟨Nat.le_of_ble_eq_true rfl, Nat.le_of_ble_eq_true rfl⟩) ⟨fun a U g mk q => by obtain ⟨q0, q1, qP, qK, qD, qN⟩ := q; exact ⟨q0, q1, qP, va_K.moved (u := U) (U := U.calling g mk a) (Vm.Alike.refl U.vm) qK, qD, NwA.same (u := U) rfl qN⟩, (va_recv (q0 := 4) (ci := 3) hK hP rfl rfl), fun U hU hW => ⟨rfl, by rw [hU], by rw [hU]; exact hPc, va_K.moved hW.alike hK, hDc.weaken (fun _ _ _ _ => trivial), NwA.warm hW hN⟩⟩ rfl rfl hl.1 rfl (lv_room (Nat.le_of_ble_eq_true rfl)) d_NU_play_79 ⟨Nat.le_of_ble_eq_true rfl, Nat.le_of_ble_eq_true rfl⟩) hS (fun q _ h => hFc q h) hFc (fun r8 u9 t9 H6 locs ht9 hvm hw7 hB hz1 hk1 hSn => ?_)
              replace hP : va_P (dC, dI) clA [(x0, .inr (0, [.ref n0, .ref f0, .ref w0, .ref u0, .ref q0])), (n0, .inr (1, [.ref n1, .ref n2, .int (nI nz), .int nf])), (n1, .inl (cI, 8, .inl np)), (n2, .inl (cI, 8, .inl nq)), (w0, .inr (3, [.ref w1, .int (nI wn)])), (w1, .inl (cI, 31, .inl wf))] H6 := pu_keep hP hk1
              replace hS := hSn
              clear hSn hPc hDc hFc hk1 hz1 ht9 hvm hB
              refine W.cs (cells' := 0) (slots' := 0) rfl rfl ?_
              subst hw7
              refine lv_istore (lv' := [(5, .int (wf i)), (0, .ref x0), (1, .int (nI k)), (3, .int mv), (4, .int (nI i))]) hx hb d_NU_play_82 hl (by decide) rfl (fun ls hln => ?_)
              replace hl : lv_has ls 6 [(5, .int (wf i)), (0, .ref x0), (1, .int (nI k)), (3, .int mv), (4, .int (nI i))] := hln
              clear hln
              refine lv_aload_n hx hb d_NU_play_84 rfl (lv_at hl 1 rfl) ?_
              refine va_get (D := (dC, dI)) (ci := 0) (v := .ref n0) (C := "NetUnfolder") (T := T_NU) (N := 5) hx hb ht in_NU hown hK hP 0 rfl rfl 0 (by decide) (ht _ wd_2_36) (fun _ h9 => h9) rfl d_NU_play_85 ?_
              refine lv_iload_n hx hb d_NU_play_88 rfl (lv_at hl 3 rfl) ?_
              refine lv_iload hx hb d_NU_play_89 (lv_at hl 0 rfl) ?_
              have hPc := hP.sub (ws' := [(n0, .inr (1, [.ref n1, .ref n2, .int (nI nz), .int nf])), (n1, .inl (cI, 8, .inl np))]) [1, 2] rfl
              have hDc := hD.sub (ws' := [(n0, .inr (1, [.ref n1, .ref n2, .int (nI nz), .int nf])), (n1, .inl (cI, 8, .inl np))]) [1, 2] (by decide) rfl
              have hFc := pu_free hS hA
              refine va_calli (va_runV (C := "NetUnfolder$Net") (As := [.int mv, .int (wf i)]) (rest := []) ⟨hx, hb, hml, hown, ht⟩ (r_Ne_enables l dC dI cI cL cZ _ n0 n1 n2 nz nf np mv (wf i) (by first | assumption | omega | trivial | exact AllLt.zero | exact AllN.zero | exact AllM.zero | exact Or.inl rfl | exact Or.inr rfl)) (cwV 2 ht (good_V wd_3_229 wd_3_230 wd_3_231 wd_1_2 wd_3_232) rfl rfl rfl (by decide +kernel) ⟨Nat.le_of_ble_eq_true rfl, Nat.le_of_ble_eq_true rfl⟩) ⟨fun a U g mk q => by obtain ⟨q0, q1, qP, qK, qD, qN⟩ := q; exact ⟨q0, q1, qP, va_K.moved (u := U) (U := U.calling g mk a) (Vm.Alike.refl U.vm) qK, qD, NwA.same (u := U) rfl qN⟩, (va_recv (q0 := 1) (ci := 1) hK hP rfl rfl), fun U hU hW => ⟨rfl, by rw [hU], by rw [hU]; exact hPc, va_K.moved hW.alike hK, hDc.weaken (fun _ _ _ _ => trivial), NwA.warm hW hN⟩⟩ rfl rfl hl.1 rfl (lv_room (Nat.le_of_ble_eq_true rfl)) d_NU_play_91 ⟨Nat.le_of_ble_eq_true rfl, Nat.le_of_ble_eq_true rfl⟩) hS (fun q _ h => hFc q h) hFc (fun r11 u9 t9 H9 locs ht9 hvm hw10 hB hz1 hk1 hSn => ?_)
              replace hP : va_P (dC, dI) clA [(x0, .inr (0, [.ref n0, .ref f0, .ref w0, .ref u0, .ref q0])), (n0, .inr (1, [.ref n1, .ref n2, .int (nI nz), .int nf])), (n1, .inl (cI, 8, .inl np)), (n2, .inl (cI, 8, .inl nq)), (w0, .inr (3, [.ref w1, .int (nI wn)])), (w1, .inl (cI, 31, .inl wf))] H9 := pu_keep hP hk1
              replace hS := hSn
              clear hSn hPc hDc hFc hk1 hz1 ht9 hvm hB
              refine W.cs (cells' := 0) (slots' := 0) rfl rfl ?_
              have hr12 := hw10
              refine lv_if_ne (tgt := 105) hx hb d_NU_play_94 (by decide) (fun hb13 => ?_) (fun hb13 => ?_)
              · skip
                obtain ⟨j14_r, j14_p⟩ := hr12.resolve_right (fun q => hb13 q.1)
                have j14_p0 := j14_p
                obtain ⟨j14, j14_l, j14_e, -⟩ := j14_p
                refine lv_aload_n hx hb d_NU_play_105 rfl (lv_at hl 1 rfl) ?_
                refine va_get (D := (dC, dI)) (ci := 0) (v := .ref n0) (C := "NetUnfolder") (T := T_NU) (N := 5) hx hb ht in_NU hown hK hP 0 rfl rfl 0 (by decide) (ht _ wd_2_36) (fun _ h9 => h9) rfl d_NU_play_106 ?_
                refine lv_iload_n hx hb d_NU_play_109 rfl (lv_at hl 3 rfl) ?_
                refine lv_iload hx hb d_NU_play_110 (lv_at hl 0 rfl) ?_
                refine ci_i (y := nI j14) j14_e ?_
                have hPc := hP.sub (ws' := [(n0, .inr (1, [.ref n1, .ref n2, .int (nI nz), .int nf])), (n1, .inl (cI, 8, .inl np)), (n2, .inl (cI, 8, .inl nq))]) [1, 2, 3] rfl
                have hDc := hD.sub (ws' := [(n0, .inr (1, [.ref n1, .ref n2, .int (nI nz), .int nf])), (n1, .inl (cI, 8, .inl np)), (n2, .inl (cI, 8, .inl nq))]) [1, 2, 3] (by decide) rfl
                have hFc := pu_free hS hA
                refine va_calli (va_runV (C := "NetUnfolder$Net") (As := [.int mv, .int (nI j14)]) (rest := []) ⟨hx, hb, hml, hown, ht⟩ (r_Ne_fire l dC dI cI cL cZ _ n0 n1 n2 nz nf np nq mv j14 (by first | assumption | omega | trivial | exact AllLt.zero | exact AllN.zero | exact AllM.zero | exact Or.inl rfl | exact Or.inr rfl)) (cwV 2 ht (good_V wd_3_233 wd_2_177 wd_2_178 wd_1_2 wd_2_179) rfl rfl rfl (by decide +kernel) ⟨Nat.le_of_ble_eq_true rfl, Nat.le_of_ble_eq_true rfl⟩) ⟨fun a U g mk q => by obtain ⟨q0, q1, qP, qK, qD, qN⟩ := q; exact ⟨q0, q1, qP, va_K.moved (u := U) (U := U.calling g mk a) (Vm.Alike.refl U.vm) qK, qD, NwA.same (u := U) rfl qN⟩, (va_recv (q0 := 1) (ci := 1) hK hP rfl rfl), fun U hU hW => ⟨rfl, by rw [hU], by rw [hU]; exact hPc, va_K.moved hW.alike hK, hDc.weaken (fun _ _ _ _ => trivial), NwA.warm hW hN⟩⟩ rfl rfl hl.1 rfl (lv_room (Nat.le_of_ble_eq_true rfl)) d_NU_play_112 ⟨Nat.le_of_ble_eq_true rfl, Nat.le_of_ble_eq_true rfl⟩) hS (fun q _ h => hFc q h) hFc (fun r17 u9 t9 H15 locs ht9 hvm hw16 hB hz1 hk1 hSn => ?_)
                replace hP : va_P (dC, dI) clA [(x0, .inr (0, [.ref n0, .ref f0, .ref w0, .ref u0, .ref q0])), (n0, .inr (1, [.ref n1, .ref n2, .int (nI nz), .int nf])), (n1, .inl (cI, 8, .inl np)), (n2, .inl (cI, 8, .inl nq)), (w0, .inr (3, [.ref w1, .int (nI wn)])), (w1, .inl (cI, 31, .inl wf))] H15 := pu_keep hP hk1
                replace hS := hSn
                clear hSn hPc hDc hFc hk1 hz1 ht9 hvm hB
                refine W.cs (cells' := 0) (slots' := 0) rfl rfl ?_
                subst hw16
                refine lv_istore_n (lv' := [(3, .int ((mv &&& ((np j14) ^^^ (-1))) ||| (nq j14))), (5, .int (wf i)), (0, .ref x0), (1, .int (nI k)), (4, .int (nI i))]) hx hb d_NU_play_115 rfl hl (by decide) rfl (fun ls hln => ?_)
                replace hl : lv_has ls 6 [(3, .int ((mv &&& ((np j14) ^^^ (-1))) ||| (nq j14))), (5, .int (wf i)), (0, .ref x0), (1, .int (nI k)), (4, .int (nI i))] := hln
                clear hln
                refine lv_iinc (k := 4) (v := nI (i + 1)) (lv' := [(4, .int (nI (i + 1))), (3, .int ((mv &&& ((np j14) ^^^ (-1))) ||| (nq j14))), (5, .int (wf i)), (0, .ref x0), (1, .int (nI k))]) hx hb d_NU_play_116 hl rfl (nI_1 _) (by decide) rfl (fun ls hln => ?_)
                replace hl : lv_has ls 6 [(4, .int (nI (i + 1))), (3, .int ((mv &&& ((np j14) ^^^ (-1))) ||| (nq j14))), (5, .int (wf i)), (0, .ref x0), (1, .int (nI k))] := hln
                clear hln
                refine lv_goto (tgt := 67) hx hb d_NU_play_119 (by decide) ?_
                exact hloop4_ih (i + 1) ((mv &&& ((np j14) ^^^ (-1))) ||| (nq j14)) (by first | assumption | omega | trivial | exact AllLt.zero | exact AllN.zero | exact AllM.zero | exact Or.inl rfl | exact Or.inr rfl) (pM_s hmv j14_e (by omega)) (lt_s hall (hmv ▸ j14_p0)) _ _ ls (lv_sub hl [3, 4, 1, 0] rfl) (hP.sub [0, 1, 2, 3, 4, 5] rfl) (hD.sub [0, 1, 2, 3, 4, 5] (by decide) rfl) hS (by omega)
              · skip
                refine va_forget (fun q hq => hS.2.2 q hq) ?_
                refine W.newc hx hb hown (ht _ wd_3_75) (ht _ wd_3_76) (ht _ wd_1_15) (g := F0 m 97 ls []) rfl d_NU_play_97 (Nat.le_of_ble_eq_true rfl) (Nat.le_of_ble_eq_true rfl) (fun cX kX hfX hkX _ _ => ?_)
                refine W.eq (g2 := F0 m 100 ls (.ref _ :: [])) rfl ?_
                refine lv_dup hx hb d_NU_play_100 rfl ?_
                refine W.cs (cells' := 1) (slots' := 6) rfl rfl ?_
                subst hQ
                exact tx_throw0 (own := "NetUnfolder") (cls := "java/lang/IllegalStateException") (names := ["java/lang/RuntimeException", "java/lang/Exception"]) (ic := 59) hx hb htr hown (by decide +kernel) (by decide +kernel) (fun a ha => own_before (oa_ISE a ha) ht hT) hfX hkX (by simp) hS.1 (by rw [hml]; exact hl.1) d_NU_play_101 d_NU_play_104 hout (Nat.le_of_ble_eq_true rfl) (Nat.le_of_ble_eq_true rfl) hlocks (fun U _ h => h)
        exact hloop4 ((k - 0) + 1) 0 nf (by first | assumption | omega | trivial | exact AllLt.zero | exact AllN.zero | exact AllM.zero | exact Or.inl rfl | exact Or.inr rfl) rfl (fun q hq => absurd hq (Nat.not_lt_zero q)) _ _ ls (lv_sub hl [3, 4, 1, 0] rfl) hP hD hS (Nat.lt_succ_self _)
      · skip
        replace hb3 := cv_nle (a := k) (b := wn) (by omega) (by omega) hb3
        exfalso; omega
