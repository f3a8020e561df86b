set_option maxHeartbeats 4000000 in
set_option maxRecDepth 100000 in
theorem c_Wa_drop (l : Launch) (dC : Nat → ClassId) (dI : Nat → Nat → Nat) (cI cL cZ : ClassId) (sz : Nat) (w0 : Nat) (w1 : Nat) (wl : Int32) : Met l y_Wa_drop (Cond.code y_Wa_drop prog_9_method_2_code 1 none :: wsA) { frames := 0, cells := 0, slots := 0, locals := 0 } (va_Pc [.ref w0] (fun U => U.heap.size = sz ∧ va_P (dC, dI) clA [(w0, .inr (3, [.ref w1, .int wl]))] U.heap ∧ va_K (dC, dI) clA [(cI, .int), (cL, .long), (cZ, .boolean)] U ∧ va_D (fun _ => True) [(w0, .inr (3, [.ref w1, .int wl]))] ∧ NwA U)) (va_Qv (fun _ : Unit => True) (fun _ t => va_P (dC, dI) clA [(w0, .inr (3, [.ref w1, .int (-1)]))] t.heap ∧ va_D (va_A [(w0, .inr (3, [.ref w1, .int wl]))] sz) [(w0, .inr (3, [.ref w1, .int (-1)]))]) (va_A [(w0, .inr (3, [.ref w1, .int wl]))] sz)) 0 0 (va_A [(w0, .inr (3, [.ref w1, .int wl]))] sz) := by
  refine Met.ofW (cc := prog_9_method_2_code) (maxL := 1) (ret := none) (by decide) rfl ?_
  intro p e s m args below meth c s₁ B hml hv
  obtain ⟨rfl, hsz, hP, hK, hD0, hN⟩ := hv
  have hx := B.exec
  have hb := B.bytes
  have hr := B.returns
  have ht : ∀ w ∈ wsA, w.before _ s = true := fun w h => atoms_spec (ws := (Cond.code y_Wa_drop prog_9_method_2_code 1 none :: wsA)) B.pre w (List.mem_cons_of_mem _ h)
  have hown : s.vm.findClass "NetUnfolder$Way" = some m.cls := findClass_of_methodNamed B.named
  have hlocks := B.notSynchronized
  subst hsz
  have hD := hD0.self (sz := s.heap.size)
  generalize hAe : va_A [(w0, .inr (3, [.ref w1, .int wl]))] s.heap.size = A at hD ⊢
  have hA : ∀ q : Nat, s.heap.size ≤ q → A q := fun q h => by rw [← hAe]; exact Or.inr h
  have hS : va_S A s.heap s.heap [] := va_S.rf
  have hl := lv_entry ([.ref w0]) (n := 1) (Nat.le_of_ble_eq_true rfl)
  rw [lg_entry_eq]
  generalize (lg_sl ([.ref w0]) ++ List.replicate (1 - (lg_sl ([.ref w0])).length) Slot.unset).toArray = ls at hl ⊢
  replace hl : lv_has ls 1 [(0, .ref w0)] := hl
  refine W_Q (fun Q hQ => ?_)
  refine lv_aload_n hx hb d_Wa_drop_0 rfl (lv_at hl 0 rfl) ?_
  refine lv_iconst (v := (-1)) hx hb d_Wa_drop_1 (by decide) ?_
  refine va_put (D := (dC, dI)) (ci := 3) (v := .int (-1)) (ty := .int) (C := "NetUnfolder$Way") (T := T_Wa) (N := 2) hx hb ht in_Wa ty_Wa ok_Wa nm_Wa hown hK hP hD hS 0 rfl rfl 1 (by decide) (ht _ wd_1_144) (fun _ h9 => h9) rfl (by decide +kernel) rfl rfl (Nat.le_of_ble_eq_true rfl) d_Wa_drop_2 (fun H1 locs hPn hDn hSn => ?_)
  replace hP : va_P (dC, dI) clA [(w0, .inr (3, [.ref w1, .int (-1)]))] H1 := hPn
  replace hD : va_D A [(w0, .inr (3, [.ref w1, .int (-1)]))] := hDn
  replace hS := hSn
  clear hPn hDn hSn
  have hP9 := hP.sub (ws' := [(w0, .inr (3, [.ref w1, .int (-1)]))]) [0] rfl
  have hD9 := hD.sub (ws' := [(w0, .inr (3, [.ref w1, .int (-1)]))]) [0] (by decide) rfl
  subst hQ
  exact W.vret hx hb hr (fun t9 ht9 hW => ⟨⟨(), rfl, trivial, by rw [ht9]; exact hP9, hD9⟩, hS.F ht9⟩) hS.2.2 d_Wa_drop_5

set_option maxHeartbeats 4000000 in
set_option maxRecDepth 100000 in
theorem c_Wa_begin (l : Launch) (dC : Nat → ClassId) (dI : Nat → Nat → Nat) (cI cL cZ : ClassId) (sz : Nat) (w0 : Nat) (w1 : Nat) (wl : Int32) : Met l y_Wa_begin (Cond.code y_Wa_begin prog_9_method_3_code 1 none :: wsA) { frames := 0, cells := 0, slots := 0, locals := 0 } (va_Pc [.ref w0] (fun U => U.heap.size = sz ∧ va_P (dC, dI) clA [(w0, .inr (3, [.ref w1, .int wl]))] U.heap ∧ va_K (dC, dI) clA [(cI, .int), (cL, .long), (cZ, .boolean)] U ∧ va_D (fun _ => True) [(w0, .inr (3, [.ref w1, .int wl]))] ∧ NwA U)) (va_Qv (fun _ : Unit => True) (fun _ t => va_P (dC, dI) clA [(w0, .inr (3, [.ref w1, .int 0]))] t.heap ∧ va_D (va_A [(w0, .inr (3, [.ref w1, .int wl]))] sz) [(w0, .inr (3, [.ref w1, .int 0]))]) (va_A [(w0, .inr (3, [.ref w1, .int wl]))] sz)) 0 0 (va_A [(w0, .inr (3, [.ref w1, .int wl]))] sz) := by
  refine Met.ofW (cc := prog_9_method_3_code) (maxL := 1) (ret := none) (by decide) rfl ?_
  intro p e s m args below meth c s₁ B hml hv
  obtain ⟨rfl, hsz, hP, hK, hD0, hN⟩ := hv
  have hx := B.exec
  have hb := B.bytes
  have hr := B.returns
  have ht : ∀ w ∈ wsA, w.before _ s = true := fun w h => atoms_spec (ws := (Cond.code y_Wa_begin prog_9_method_3_code 1 none :: wsA)) B.pre w (List.mem_cons_of_mem _ h)
  have hown : s.vm.findClass "NetUnfolder$Way" = some m.cls := findClass_of_methodNamed B.named
  have hlocks := B.notSynchronized
  subst hsz
  have hD := hD0.self (sz := s.heap.size)
  generalize hAe : va_A [(w0, .inr (3, [.ref w1, .int wl]))] s.heap.size = A at hD ⊢
  have hA : ∀ q : Nat, s.heap.size ≤ q → A q := fun q h => by rw [← hAe]; exact Or.inr h
  have hS : va_S A s.heap s.heap [] := va_S.rf
  have hl := lv_entry ([.ref w0]) (n := 1) (Nat.le_of_ble_eq_true rfl)
  rw [lg_entry_eq]
  generalize (lg_sl ([.ref w0]) ++ List.replicate (1 - (lg_sl ([.ref w0])).length) Slot.unset).toArray = ls at hl ⊢
  replace hl : lv_has ls 1 [(0, .ref w0)] := hl
  refine W_Q (fun Q hQ => ?_)
  refine lv_aload_n hx hb d_Wa_begin_0 rfl (lv_at hl 0 rfl) ?_
  refine lv_iconst (v := 0) hx hb d_Wa_begin_1 (by decide) ?_
  refine va_put (D := (dC, dI)) (ci := 3) (v := .int 0) (ty := .int) (C := "NetUnfolder$Way") (T := T_Wa) (N := 2) hx hb ht in_Wa ty_Wa ok_Wa nm_Wa hown hK hP hD hS 0 rfl rfl 1 (by decide) (ht _ wd_1_144) (fun _ h9 => h9) rfl (by decide +kernel) rfl rfl (Nat.le_of_ble_eq_true rfl) d_Wa_begin_2 (fun H1 locs hPn hDn hSn => ?_)
  replace hP : va_P (dC, dI) clA [(w0, .inr (3, [.ref w1, .int 0]))] H1 := hPn
  replace hD : va_D A [(w0, .inr (3, [.ref w1, .int 0]))] := hDn
  replace hS := hSn
  clear hPn hDn hSn
  have hP9 := hP.sub (ws' := [(w0, .inr (3, [.ref w1, .int 0]))]) [0] rfl
  have hD9 := hD.sub (ws' := [(w0, .inr (3, [.ref w1, .int 0]))]) [0] (by decide) rfl
  subst hQ
  exact W.vret hx hb hr (fun t9 ht9 hW => ⟨⟨(), rfl, trivial, by rw [ht9]; exact hP9, hD9⟩, hS.F ht9⟩) hS.2.2 d_Wa_begin_5

set_option maxHeartbeats 4000000 in
set_option maxRecDepth 100000 in
theorem c_Wa_add (l : Launch) (dC : Nat → ClassId) (dI : Nat → Nat → Nat) (cI cL cZ : ClassId) (sz : Nat) (w0 : Nat) (w1 : Nat) (wl : Int32) (wf : Nat → Int32) (t : Int32) (hwl : WayI wl) : Met l y_Wa_add (Cond.code y_Wa_add prog_9_method_4_code 2 none :: wsA) { frames := 0, cells := 0, slots := 0, locals := 0 } (va_Pc [.ref w0, .int t] (fun U => U.heap.size = sz ∧ va_P (dC, dI) clA [(w0, .inr (3, [.ref w1, .int wl])), (w1, .inl (cI, 31, .inl wf))] U.heap ∧ va_K (dC, dI) clA [(cI, .int), (cL, .long), (cZ, .boolean)] U ∧ va_D (fun _ => True) [(w0, .inr (3, [.ref w1, .int wl])), (w1, .inl (cI, 31, .inl wf))] ∧ NwA U)) (va_Qv (fun _ : Unit => True) (fun _ t => ∃ (wl1 : Int32), ∃ (wf1 : Nat → Int32), (WayI wl1) ∧ va_P (dC, dI) clA [(w0, .inr (3, [.ref w1, .int wl1])), (w1, .inl (cI, 31, .inl wf1))] t.heap ∧ va_D (va_A [(w0, .inr (3, [.ref w1, .int wl])), (w1, .inl (cI, 31, .inl wf))] sz) [(w0, .inr (3, [.ref w1, .int wl1])), (w1, .inl (cI, 31, .inl wf1))]) (va_A [(w0, .inr (3, [.ref w1, .int wl])), (w1, .inl (cI, 31, .inl wf))] sz)) 0 0 (va_A [(w0, .inr (3, [.ref w1, .int wl])), (w1, .inl (cI, 31, .inl wf))] sz) := by
  refine Met.ofW (cc := prog_9_method_4_code) (maxL := 2) (ret := none) (by decide) rfl ?_
  intro p e s m args below meth c s₁ B hml hv
  obtain ⟨rfl, hsz, hP, hK, hD0, hN⟩ := hv
  have hx := B.exec
  have hb := B.bytes
  have hr := B.returns
  have ht : ∀ w ∈ wsA, w.before _ s = true := fun w h => atoms_spec (ws := (Cond.code y_Wa_add prog_9_method_4_code 2 none :: wsA)) B.pre w (List.mem_cons_of_mem _ h)
  have hown : s.vm.findClass "NetUnfolder$Way" = some m.cls := findClass_of_methodNamed B.named
  have hlocks := B.notSynchronized
  subst hsz
  have hD := hD0.self (sz := s.heap.size)
  generalize hAe : va_A [(w0, .inr (3, [.ref w1, .int wl])), (w1, .inl (cI, 31, .inl wf))] s.heap.size = A at hD ⊢
  have hA : ∀ q : Nat, s.heap.size ≤ q → A q := fun q h => by rw [← hAe]; exact Or.inr h
  have hS : va_S A s.heap s.heap [] := va_S.rf
  have hl := lv_entry ([.ref w0, .int t]) (n := 2) (Nat.le_of_ble_eq_true rfl)
  rw [lg_entry_eq]
  generalize (lg_sl ([.ref w0, .int t]) ++ List.replicate (2 - (lg_sl ([.ref w0, .int t])).length) Slot.unset).toArray = ls at hl ⊢
  replace hl : lv_has ls 2 [(0, .ref w0), (1, .int t)] := hl
  refine W_Q (fun Q hQ => ?_)
  refine lv_aload_n hx hb d_Wa_add_0 rfl (lv_at hl 0 rfl) ?_
  refine va_get (D := (dC, dI)) (ci := 3) (v := .int wl) (C := "NetUnfolder$Way") (T := T_Wa) (N := 2) hx hb ht in_Wa hown hK hP 0 rfl rfl 1 (by decide) (ht _ wd_1_144) (fun _ h9 => h9) rfl d_Wa_add_1 ?_
  refine lv_if_lt (tgt := 39) hx hb d_Wa_add_4 (by decide) (fun hb1 => ?_) (fun hb1 => ?_)
  · skip
    have hP9 := hP.sub (ws' := [(w0, .inr (3, [.ref w1, .int wl])), (w1, .inl (cI, 31, .inl wf))]) [0, 1] rfl
    have hD9 := hD.sub (ws' := [(w0, .inr (3, [.ref w1, .int wl])), (w1, .inl (cI, 31, .inl wf))]) [0, 1] (by decide) rfl
    subst hQ
    exact W.vret hx hb hr (fun t9 ht9 hW => ⟨⟨(), rfl, trivial, wl, wf, (by first | assumption | exact WayI.of (by omega)), by rw [ht9]; exact hP9, hD9⟩, hS.F ht9⟩) hS.2.2 d_Wa_add_39
  · skip
    obtain ⟨j2, hj3, rfl⟩ := WayI.nat hwl hb1
    refine lv_aload_n hx hb d_Wa_add_7 rfl (lv_at hl 0 rfl) ?_
    refine va_get (D := (dC, dI)) (ci := 3) (v := .int (nI j2)) (C := "NetUnfolder$Way") (T := T_Wa) (N := 2) hx hb ht in_Wa hown hK hP 0 rfl rfl 1 (by decide) (ht _ wd_1_144) (fun _ h9 => h9) rfl d_Wa_add_8 ?_
    refine lv_aload_n hx hb d_Wa_add_11 rfl (lv_at hl 0 rfl) ?_
    refine va_get (D := (dC, dI)) (ci := 3) (v := .ref w1) (C := "NetUnfolder$Way") (T := T_Wa) (N := 2) hx hb ht in_Wa hown hK hP 0 rfl rfl 0 (by decide) (ht _ wd_1_143) (fun _ h9 => h9) rfl d_Wa_add_12 ?_
    refine va_alen hx hb hK hP 1 0 rfl rfl (v := 31) rfl d_Wa_add_15 ?_
    refine lv_icmp_ge (tgt := 39) hx hb d_Wa_add_16 (by decide) (fun hb4 => ?_) (fun hb4 => ?_)
    · skip
      replace hb4 := cv_le (a := 31) (b := j2) (by omega) (by omega) hb4
      have hP9 := hP.sub (ws' := [(w0, .inr (3, [.ref w1, .int (nI j2)])), (w1, .inl (cI, 31, .inl wf))]) [0, 1] rfl
      have hD9 := hD.sub (ws' := [(w0, .inr (3, [.ref w1, .int (nI j2)])), (w1, .inl (cI, 31, .inl wf))]) [0, 1] (by decide) rfl
      subst hQ
      exact W.vret hx hb hr (fun t9 ht9 hW => ⟨⟨(), rfl, trivial, (nI j2), wf, (by first | assumption | exact WayI.of (by omega)), by rw [ht9]; exact hP9, hD9⟩, hS.F ht9⟩) hS.2.2 d_Wa_add_39
    · skip
      replace hb4 := cv_nle (a := 31) (b := j2) (by omega) (by omega) hb4
      refine lv_aload_n hx hb d_Wa_add_19 rfl (lv_at hl 0 rfl) ?_
      refine va_get (D := (dC, dI)) (ci := 3) (v := .ref w1) (C := "NetUnfolder$Way") (T := T_Wa) (N := 2) hx hb ht in_Wa hown hK hP 0 rfl rfl 0 (by decide) (ht _ wd_1_143) (fun _ h9 => h9) rfl d_Wa_add_20 ?_
      refine lv_aload_n hx hb d_Wa_add_23 rfl (lv_at hl 0 rfl) ?_
      refine va_get (D := (dC, dI)) (ci := 3) (v := .int (nI j2)) (C := "NetUnfolder$Way") (T := T_Wa) (N := 2) hx hb ht in_Wa hown hK hP 0 rfl rfl 1 (by decide) (ht _ wd_1_144) (fun _ h9 => h9) rfl d_Wa_add_24 ?_
      refine lv_iload_n hx hb d_Wa_add_27 rfl (lv_at hl 1 rfl) ?_
      refine na_iast (k := j2) hx hb hK hP hD hS 1 0 rfl rfl (by omega) (by decide) d_Wa_add_28 (fun H5 locs hPn hDn hSn => ?_)
      replace hP : va_P (dC, dI) clA [(w0, .inr (3, [.ref w1, .int (nI j2)])), (w1, .inl (cI, 31, .inl (upd wf j2 t)))] H5 := hPn
      replace hD : va_D A [(w0, .inr (3, [.ref w1, .int (nI j2)])), (w1, .inl (cI, 31, .inl (upd wf j2 t)))] := hDn
      replace hS := hSn
      clear hPn hDn hSn
      refine lv_aload_n hx hb d_Wa_add_29 rfl (lv_at hl 0 rfl) ?_
      refine lv_dup hx hb d_Wa_add_30 rfl ?_
      refine va_get (D := (dC, dI)) (ci := 3) (v := .int (nI j2)) (C := "NetUnfolder$Way") (T := T_Wa) (N := 2) hx hb ht in_Wa hown hK hP 0 rfl rfl 1 (by decide) (ht _ wd_1_144) (fun _ h9 => h9) rfl d_Wa_add_31 ?_
      refine lv_iconst (v := 1) hx hb d_Wa_add_34 (by decide) ?_
      refine lv_iadd hx hb d_Wa_add_35 ?_
      refine ci_i (y := nI (j2 + 1)) (cv_add j2 1) ?_
      refine va_put (D := (dC, dI)) (ci := 3) (v := .int (nI (j2 + 1))) (ty := .int) (C := "NetUnfolder$Way") (T := T_Wa) (N := 2) hx hb ht in_Wa ty_Wa ok_Wa nm_Wa hown hK hP hD hS 0 rfl rfl 1 (by decide) (ht _ wd_1_144) (fun _ h9 => h9) rfl (by decide +kernel) rfl rfl (Nat.le_of_ble_eq_true rfl) d_Wa_add_36 (fun H6 locs hPn hDn hSn => ?_)
      replace hP : va_P (dC, dI) clA [(w0, .inr (3, [.ref w1, .int (nI (j2 + 1))])), (w1, .inl (cI, 31, .inl (upd wf j2 t)))] H6 := hPn
      replace hD : va_D A [(w0, .inr (3, [.ref w1, .int (nI (j2 + 1))])), (w1, .inl (cI, 31, .inl (upd wf j2 t)))] := hDn
      replace hS := hSn
      clear hPn hDn hSn
      have hP9 := hP.sub (ws' := [(w0, .inr (3, [.ref w1, .int (nI (j2 + 1))])), (w1, .inl (cI, 31, .inl (upd wf j2 t)))]) [0, 1] rfl
      have hD9 := hD.sub (ws' := [(w0, .inr (3, [.ref w1, .int (nI (j2 + 1))])), (w1, .inl (cI, 31, .inl (upd wf j2 t)))]) [0, 1] (by decide) rfl
      subst hQ
      exact W.vret hx hb hr (fun t9 ht9 hW => ⟨⟨(), rfl, trivial, (nI (j2 + 1)), (upd wf j2 t), (by first | assumption | exact WayI.of (by omega)), by rw [ht9]; exact hP9, hD9⟩, hS.F ht9⟩) hS.2.2 d_Wa_add_39

set_option maxHeartbeats 4000000 in
set_option maxRecDepth 100000 in
theorem c_Wa_step (l : Launch) (dC : Nat → ClassId) (dI : Nat → Nat → Nat) (cI cL cZ : ClassId) (sz : Nat) (w0 : Nat) (w1 : Nat) (wl : Int32) (wf : Nat → Int32) (k : Int32) (hwl : WayI wl) : Met l y_Wa_step (Cond.code y_Wa_step prog_9_method_5_code 2 (some .int) :: wsA) { frames := 0, cells := 0, slots := 0, locals := 0 } (va_Pc [.ref w0, .int k] (fun U => U.heap.size = sz ∧ va_P (dC, dI) clA [(w0, .inr (3, [.ref w1, .int wl])), (w1, .inl (cI, 31, .inl wf))] U.heap ∧ va_K (dC, dI) clA [(cI, .int), (cL, .long), (cZ, .boolean)] U ∧ va_D (fun _ => True) [(w0, .inr (3, [.ref w1, .int wl])), (w1, .inl (cI, 31, .inl wf))] ∧ NwA U)) (va_Qi (fun r (_ : Unit) => True) (fun _ t => va_P (dC, dI) clA [(w0, .inr (3, [.ref w1, .int wl])), (w1, .inl (cI, 31, .inl wf))] t.heap ∧ va_D (va_A [(w0, .inr (3, [.ref w1, .int wl])), (w1, .inl (cI, 31, .inl wf))] sz) [(w0, .inr (3, [.ref w1, .int wl])), (w1, .inl (cI, 31, .inl wf))]) (va_A [(w0, .inr (3, [.ref w1, .int wl])), (w1, .inl (cI, 31, .inl wf))] sz)) 0 0 (va_A [(w0, .inr (3, [.ref w1, .int wl])), (w1, .inl (cI, 31, .inl wf))] sz) := by
  refine Met.ofW (cc := prog_9_method_5_code) (maxL := 2) (ret := (some .int)) (by decide) rfl ?_
  intro p e s m args below meth c s₁ B hml hv
  obtain ⟨rfl, hsz, hP, hK, hD0, hN⟩ := hv
  have hx := B.exec
  have hb := B.bytes
  have hr := B.returns
  have ht : ∀ w ∈ wsA, w.before _ s = true := fun w h => atoms_spec (ws := (Cond.code y_Wa_step prog_9_method_5_code 2 (some .int) :: wsA)) B.pre w (List.mem_cons_of_mem _ h)
  have hown : s.vm.findClass "NetUnfolder$Way" = some m.cls := findClass_of_methodNamed B.named
  have hlocks := B.notSynchronized
  subst hsz
  have hD := hD0.self (sz := s.heap.size)
  generalize hAe : va_A [(w0, .inr (3, [.ref w1, .int wl])), (w1, .inl (cI, 31, .inl wf))] s.heap.size = A at hD ⊢
  have hA : ∀ q : Nat, s.heap.size ≤ q → A q := fun q h => by rw [← hAe]; exact Or.inr h
  have hS : va_S A s.heap s.heap [] := va_S.rf
  have hl := lv_entry ([.ref w0, .int k]) (n := 2) (Nat.le_of_ble_eq_true rfl)
  rw [lg_entry_eq]
  generalize (lg_sl ([.ref w0, .int k]) ++ List.replicate (2 - (lg_sl ([.ref w0, .int k])).length) Slot.unset).toArray = ls at hl ⊢
  replace hl : lv_has ls 2 [(0, .ref w0), (1, .int k)] := hl
  refine W_Q (fun Q hQ => ?_)
  refine lv_iload_n hx hb d_Wa_step_0 rfl (lv_at hl 1 rfl) ?_
  refine lv_if_lt (tgt := 21) hx hb d_Wa_step_1 (by decide) (fun hb1 => ?_) (fun hb1 => ?_)
  · skip
    refine lv_iconst (v := (-1)) hx hb d_Wa_step_21 (by decide) ?_
    have hP9 := hP.sub (ws' := [(w0, .inr (3, [.ref w1, .int wl])), (w1, .inl (cI, 31, .inl wf))]) [0, 1] rfl
    have hD9 := hD.sub (ws' := [(w0, .inr (3, [.ref w1, .int wl])), (w1, .inl (cI, 31, .inl wf))]) [0, 1] (by decide) rfl
    subst hQ
    exact W.iret (v := (-1)) hx hb hr (fun t9 ht9 hW => ⟨⟨(-1), (), rfl, trivial, by rw [ht9]; exact hP9, hD9⟩, hS.F ht9⟩) hS.2.2 d_Wa_step_22
  · skip
    refine lv_iload_n hx hb d_Wa_step_4 rfl (lv_at hl 1 rfl) ?_
    refine lv_aload_n hx hb d_Wa_step_5 rfl (lv_at hl 0 rfl) ?_
    refine va_get (D := (dC, dI)) (ci := 3) (v := .int wl) (C := "NetUnfolder$Way") (T := T_Wa) (N := 2) hx hb ht in_Wa hown hK hP 0 rfl rfl 1 (by decide) (ht _ wd_1_144) (fun _ h9 => h9) rfl d_Wa_step_6 ?_
    refine lv_icmp_ge (tgt := 21) hx hb d_Wa_step_9 (by decide) (fun hb2 => ?_) (fun hb2 => ?_)
    · skip
      refine lv_iconst (v := (-1)) hx hb d_Wa_step_21 (by decide) ?_
      have hP9 := hP.sub (ws' := [(w0, .inr (3, [.ref w1, .int wl])), (w1, .inl (cI, 31, .inl wf))]) [0, 1] rfl
      have hD9 := hD.sub (ws' := [(w0, .inr (3, [.ref w1, .int wl])), (w1, .inl (cI, 31, .inl wf))]) [0, 1] (by decide) rfl
      subst hQ
      exact W.iret (v := (-1)) hx hb hr (fun t9 ht9 hW => ⟨⟨(-1), (), rfl, trivial, by rw [ht9]; exact hP9, hD9⟩, hS.F ht9⟩) hS.2.2 d_Wa_step_22
    · skip
      obtain ⟨j3, hj4, rfl⟩ := WayI.ix hwl hb1 hb2
      refine lv_aload_n hx hb d_Wa_step_12 rfl (lv_at hl 0 rfl) ?_
      refine va_get (D := (dC, dI)) (ci := 3) (v := .ref w1) (C := "NetUnfolder$Way") (T := T_Wa) (N := 2) hx hb ht in_Wa hown hK hP 0 rfl rfl 0 (by decide) (ht _ wd_1_143) (fun _ h9 => h9) rfl d_Wa_step_13 ?_
      refine lv_iload_n hx hb d_Wa_step_16 rfl (lv_at hl 1 rfl) ?_
      refine na_iald (k := j3) hx hb hK hP 1 0 rfl rfl (by omega) (by decide) d_Wa_step_17 ?_
      refine lv_goto (tgt := 22) hx hb d_Wa_step_18 (by decide) ?_
      have hP9 := hP.sub (ws' := [(w0, .inr (3, [.ref w1, .int wl])), (w1, .inl (cI, 31, .inl wf))]) [0, 1] rfl
      have hD9 := hD.sub (ws' := [(w0, .inr (3, [.ref w1, .int wl])), (w1, .inl (cI, 31, .inl wf))]) [0, 1] (by decide) rfl
      subst hQ
      exact W.iret (v := wf j3) hx hb hr (fun t9 ht9 hW => ⟨⟨wf j3, (), rfl, trivial, by rw [ht9]; exact hP9, hD9⟩, hS.F ht9⟩) hS.2.2 d_Wa_step_22
