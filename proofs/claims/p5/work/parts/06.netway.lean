set_option maxHeartbeats 4000000 in
set_option maxRecDepth 100000 in
theorem c_Ne_enables (l : Launch) (dC : Nat → ClassId) (dI : Nat → Nat → Nat) (cI cL cZ : ClassId) (sz : Nat) (n0 : Nat) (n1 : Nat) (n2 : Nat) (nz : Nat) (nf : Int32) (np : Nat → Int32) (x : Int32) (t : Int32) (hnz : nz ≤ 8) : Met l y_Ne_enables (Cond.code y_Ne_enables prog_3_method_4_code 3 (some .boolean) :: wsA) { frames := 0, cells := 0, slots := 0, locals := 0 } (va_Pc [.ref n0, .int x, .int t] (fun U => U.heap.size = sz ∧ va_P (dC, dI) clA [(n0, .inr (1, [.ref n1, .ref n2, .int (nI nz), .int nf])), (n1, .inl (cI, 8, .inl np))] U.heap ∧ va_K (dC, dI) clA [(cI, .int), (cL, .long), (cZ, .boolean)] U ∧ va_D (fun _ => True) [(n0, .inr (1, [.ref n1, .ref n2, .int (nI nz), .int nf])), (n1, .inl (cI, 8, .inl np))] ∧ NwA U)) (va_Qi (fun r (_ : Unit) => (r = 0 ∨ (r = 1 ∧ ∃ j, j < nz ∧ t = nI j))) (fun _ t => va_P (dC, dI) clA [(n0, .inr (1, [.ref n1, .ref n2, .int (nI nz), .int nf])), (n1, .inl (cI, 8, .inl np))] t.heap ∧ va_D (va_A [(n0, .inr (1, [.ref n1, .ref n2, .int (nI nz), .int nf])), (n1, .inl (cI, 8, .inl np))] sz) [(n0, .inr (1, [.ref n1, .ref n2, .int (nI nz), .int nf])), (n1, .inl (cI, 8, .inl np))]) (va_A [(n0, .inr (1, [.ref n1, .ref n2, .int (nI nz), .int nf])), (n1, .inl (cI, 8, .inl np))] sz)) 0 0 (va_A [(n0, .inr (1, [.ref n1, .ref n2, .int (nI nz), .int nf])), (n1, .inl (cI, 8, .inl np))] sz) := by
  refine Met.ofW (cc := prog_3_method_4_code) (maxL := 3) (ret := (some .boolean)) (by decide) rfl ?_
  intro p e s m args below meth c s₁ B hml hv
  obtain ⟨rfl, hsz, hP, hK, hD0, hN⟩ := hv
  have hx := B.exec
  have hb := B.bytes
  have hr := B.returns
  have ht : ∀ w ∈ wsA, w.before _ s = true := fun w h => atoms_spec (ws := (Cond.code y_Ne_enables prog_3_method_4_code 3 (some .boolean) :: wsA)) B.pre w (List.mem_cons_of_mem _ h)
  have hown : s.vm.findClass "NetUnfolder$Net" = some m.cls := findClass_of_methodNamed B.named
  have hlocks := B.notSynchronized
  subst hsz
  have hD := hD0.self (sz := s.heap.size)
  generalize hAe : va_A [(n0, .inr (1, [.ref n1, .ref n2, .int (nI nz), .int nf])), (n1, .inl (cI, 8, .inl np))] s.heap.size = A at hD ⊢
  have hA : ∀ q : Nat, s.heap.size ≤ q → A q := fun q h => by rw [← hAe]; exact Or.inr h
  have hS : va_S A s.heap s.heap [] := va_S.rf
  have hl := lv_entry ([.ref n0, .int x, .int t]) (n := 3) (Nat.le_of_ble_eq_true rfl)
  rw [lg_entry_eq]
  generalize (lg_sl ([.ref n0, .int x, .int t]) ++ List.replicate (3 - (lg_sl ([.ref n0, .int x, .int t])).length) Slot.unset).toArray = ls at hl ⊢
  replace hl : lv_has ls 3 [(0, .ref n0), (1, .int x), (2, .int t)] := hl
  refine W_Q (fun Q hQ => ?_)
  refine lv_iload_n hx hb d_Ne_enables_0 rfl (lv_at hl 2 rfl) ?_
  refine lv_if_lt (tgt := 33) hx hb d_Ne_enables_1 (by decide) (fun hb1 => ?_) (fun hb1 => ?_)
  · skip
    refine lv_iconst (v := 0) hx hb d_Ne_enables_33 (by decide) ?_
    have hP9 := hP.sub (ws' := [(n0, .inr (1, [.ref n1, .ref n2, .int (nI nz), .int nf])), (n1, .inl (cI, 8, .inl np))]) [0, 1] rfl
    have hD9 := hD.sub (ws' := [(n0, .inr (1, [.ref n1, .ref n2, .int (nI nz), .int nf])), (n1, .inl (cI, 8, .inl np))]) [0, 1] (by decide) rfl
    subst hQ
    exact W.zret (v := 0) hx hb hr rfl (fun t9 ht9 hW => ⟨⟨0, (), rfl, (Or.inl rfl), by rw [ht9]; exact hP9, hD9⟩, hS.F ht9⟩) hS.2.2 d_Ne_enables_34
  · skip
    refine lv_iload_n hx hb d_Ne_enables_4 rfl (lv_at hl 2 rfl) ?_
    refine lv_aload_n hx hb d_Ne_enables_5 rfl (lv_at hl 0 rfl) ?_
    refine va_get (D := (dC, dI)) (ci := 1) (v := .int (nI nz)) (C := "NetUnfolder$Net") (T := T_Ne) (N := 4) hx hb ht in_Ne hown hK hP 0 rfl rfl 2 (by decide) (ht _ wd_1_38) (fun _ h9 => h9) rfl d_Ne_enables_6 ?_
    refine lv_icmp_ge (tgt := 33) hx hb d_Ne_enables_9 (by decide) (fun hb2 => ?_) (fun hb2 => ?_)
    · skip
      refine lv_iconst (v := 0) hx hb d_Ne_enables_33 (by decide) ?_
      have hP9 := hP.sub (ws' := [(n0, .inr (1, [.ref n1, .ref n2, .int (nI nz), .int nf])), (n1, .inl (cI, 8, .inl np))]) [0, 1] rfl
      have hD9 := hD.sub (ws' := [(n0, .inr (1, [.ref n1, .ref n2, .int (nI nz), .int nf])), (n1, .inl (cI, 8, .inl np))]) [0, 1] (by decide) rfl
      subst hQ
      exact W.zret (v := 0) hx hb hr rfl (fun t9 ht9 hW => ⟨⟨0, (), rfl, (Or.inl rfl), by rw [ht9]; exact hP9, hD9⟩, hS.F ht9⟩) hS.2.2 d_Ne_enables_34
    · skip
      obtain ⟨j3, hj4, rfl⟩ := ix_of2 (by omega) hb1 hb2
      refine lv_iload_n hx hb d_Ne_enables_12 rfl (lv_at hl 1 rfl) ?_
      refine lv_aload_n hx hb d_Ne_enables_13 rfl (lv_at hl 0 rfl) ?_
      refine va_get (D := (dC, dI)) (ci := 1) (v := .ref n1) (C := "NetUnfolder$Net") (T := T_Ne) (N := 4) hx hb ht in_Ne hown hK hP 0 rfl rfl 0 (by decide) (ht _ wd_1_33) (fun _ h9 => h9) rfl d_Ne_enables_14 ?_
      refine lv_iload_n hx hb d_Ne_enables_17 rfl (lv_at hl 2 rfl) ?_
      refine na_iald (k := j3) hx hb hK hP 1 0 rfl rfl (by omega) (by decide) d_Ne_enables_18 ?_
      refine lv_iand hx hb d_Ne_enables_19 ?_
      refine lv_aload_n hx hb d_Ne_enables_20 rfl (lv_at hl 0 rfl) ?_
      refine va_get (D := (dC, dI)) (ci := 1) (v := .ref n1) (C := "NetUnfolder$Net") (T := T_Ne) (N := 4) hx hb ht in_Ne hown hK hP 0 rfl rfl 0 (by decide) (ht _ wd_1_33) (fun _ h9 => h9) rfl d_Ne_enables_21 ?_
      refine lv_iload_n hx hb d_Ne_enables_24 rfl (lv_at hl 2 rfl) ?_
      refine na_iald (k := j3) hx hb hK hP 1 0 rfl rfl (by omega) (by decide) d_Ne_enables_25 ?_
      refine lv_icmp_ne (tgt := 33) hx hb d_Ne_enables_26 (by decide) (fun hb5 => ?_) (fun hb5 => ?_)
      · skip
        refine lv_iconst (v := 0) hx hb d_Ne_enables_33 (by decide) ?_
        have hP9 := hP.sub (ws' := [(n0, .inr (1, [.ref n1, .ref n2, .int (nI nz), .int nf])), (n1, .inl (cI, 8, .inl np))]) [0, 1] rfl
        have hD9 := hD.sub (ws' := [(n0, .inr (1, [.ref n1, .ref n2, .int (nI nz), .int nf])), (n1, .inl (cI, 8, .inl np))]) [0, 1] (by decide) rfl
        subst hQ
        exact W.zret (v := 0) hx hb hr rfl (fun t9 ht9 hW => ⟨⟨0, (), rfl, (Or.inl rfl), by rw [ht9]; exact hP9, hD9⟩, hS.F ht9⟩) hS.2.2 d_Ne_enables_34
      · skip
        refine lv_iconst (v := 1) hx hb d_Ne_enables_29 (by decide) ?_
        refine lv_goto (tgt := 34) hx hb d_Ne_enables_30 (by decide) ?_
        have hP9 := hP.sub (ws' := [(n0, .inr (1, [.ref n1, .ref n2, .int (nI nz), .int nf])), (n1, .inl (cI, 8, .inl np))]) [0, 1] rfl
        have hD9 := hD.sub (ws' := [(n0, .inr (1, [.ref n1, .ref n2, .int (nI nz), .int nf])), (n1, .inl (cI, 8, .inl np))]) [0, 1] (by decide) rfl
        subst hQ
        exact W.zret (v := 1) hx hb hr rfl (fun t9 ht9 hW => ⟨⟨1, (), rfl, (Or.inr ⟨rfl, _, by assumption, rfl⟩), by rw [ht9]; exact hP9, hD9⟩, hS.F ht9⟩) hS.2.2 d_Ne_enables_34

set_option maxHeartbeats 4000000 in
set_option maxRecDepth 100000 in
theorem c_Ne_fire (l : Launch) (dC : Nat → ClassId) (dI : Nat → Nat → Nat) (cI cL cZ : ClassId) (sz : Nat) (n0 : Nat) (n1 : Nat) (n2 : Nat) (nz : Nat) (nf : Int32) (np : Nat → Int32) (nq : Nat → Int32) (x : Int32) (t : Nat) (ht8 : t < 8) : Met l y_Ne_fire (Cond.code y_Ne_fire prog_3_method_5_code 3 (some .int) :: wsA) { frames := 0, cells := 0, slots := 0, locals := 0 } (va_Pc [.ref n0, .int x, .int (nI t)] (fun U => U.heap.size = sz ∧ va_P (dC, dI) clA [(n0, .inr (1, [.ref n1, .ref n2, .int (nI nz), .int nf])), (n1, .inl (cI, 8, .inl np)), (n2, .inl (cI, 8, .inl nq))] U.heap ∧ va_K (dC, dI) clA [(cI, .int), (cL, .long), (cZ, .boolean)] U ∧ va_D (fun _ => True) [(n0, .inr (1, [.ref n1, .ref n2, .int (nI nz), .int nf])), (n1, .inl (cI, 8, .inl np)), (n2, .inl (cI, 8, .inl nq))] ∧ NwA U)) (va_Qi (fun r (_ : Unit) => True) (fun _ t => va_P (dC, dI) clA [(n0, .inr (1, [.ref n1, .ref n2, .int (nI nz), .int nf])), (n1, .inl (cI, 8, .inl np)), (n2, .inl (cI, 8, .inl nq))] t.heap ∧ va_D (va_A [(n0, .inr (1, [.ref n1, .ref n2, .int (nI nz), .int nf])), (n1, .inl (cI, 8, .inl np)), (n2, .inl (cI, 8, .inl nq))] sz) [(n0, .inr (1, [.ref n1, .ref n2, .int (nI nz), .int nf])), (n1, .inl (cI, 8, .inl np)), (n2, .inl (cI, 8, .inl nq))]) (va_A [(n0, .inr (1, [.ref n1, .ref n2, .int (nI nz), .int nf])), (n1, .inl (cI, 8, .inl np)), (n2, .inl (cI, 8, .inl nq))] sz)) 0 0 (va_A [(n0, .inr (1, [.ref n1, .ref n2, .int (nI nz), .int nf])), (n1, .inl (cI, 8, .inl np)), (n2, .inl (cI, 8, .inl nq))] sz) := by
  refine Met.ofW (cc := prog_3_method_5_code) (maxL := 3) (ret := (some .int)) (by decide) rfl ?_
  intro p e s m args below meth c s₁ B hml hv
  obtain ⟨rfl, hsz, hP, hK, hD0, hN⟩ := hv
  have hx := B.exec
  have hb := B.bytes
  have hr := B.returns
  have ht : ∀ w ∈ wsA, w.before _ s = true := fun w h => atoms_spec (ws := (Cond.code y_Ne_fire prog_3_method_5_code 3 (some .int) :: wsA)) B.pre w (List.mem_cons_of_mem _ h)
  have hown : s.vm.findClass "NetUnfolder$Net" = some m.cls := findClass_of_methodNamed B.named
  have hlocks := B.notSynchronized
  subst hsz
  have hD := hD0.self (sz := s.heap.size)
  generalize hAe : va_A [(n0, .inr (1, [.ref n1, .ref n2, .int (nI nz), .int nf])), (n1, .inl (cI, 8, .inl np)), (n2, .inl (cI, 8, .inl nq))] s.heap.size = A at hD ⊢
  have hA : ∀ q : Nat, s.heap.size ≤ q → A q := fun q h => by rw [← hAe]; exact Or.inr h
  have hS : va_S A s.heap s.heap [] := va_S.rf
  have hl := lv_entry ([.ref n0, .int x, .int (nI t)]) (n := 3) (Nat.le_of_ble_eq_true rfl)
  rw [lg_entry_eq]
  generalize (lg_sl ([.ref n0, .int x, .int (nI t)]) ++ List.replicate (3 - (lg_sl ([.ref n0, .int x, .int (nI t)])).length) Slot.unset).toArray = ls at hl ⊢
  replace hl : lv_has ls 3 [(0, .ref n0), (1, .int x), (2, .int (nI t))] := hl
  refine W_Q (fun Q hQ => ?_)
  refine lv_iload_n hx hb d_Ne_fire_0 rfl (lv_at hl 1 rfl) ?_
  refine lv_aload_n hx hb d_Ne_fire_1 rfl (lv_at hl 0 rfl) ?_
  refine va_get (D := (dC, dI)) (ci := 1) (v := .ref n1) (C := "NetUnfolder$Net") (T := T_Ne) (N := 4) hx hb ht in_Ne hown hK hP 0 rfl rfl 0 (by decide) (ht _ wd_1_33) (fun _ h9 => h9) rfl d_Ne_fire_2 ?_
  refine lv_iload_n hx hb d_Ne_fire_5 rfl (lv_at hl 2 rfl) ?_
  refine na_iald (k := t) hx hb hK hP 1 0 rfl rfl (by omega) (by decide) d_Ne_fire_6 ?_
  refine lv_iconst (v := (-1)) hx hb d_Ne_fire_7 (by decide) ?_
  refine lv_ixor hx hb d_Ne_fire_8 ?_
  refine lv_iand hx hb d_Ne_fire_9 ?_
  refine lv_aload_n hx hb d_Ne_fire_10 rfl (lv_at hl 0 rfl) ?_
  refine va_get (D := (dC, dI)) (ci := 1) (v := .ref n2) (C := "NetUnfolder$Net") (T := T_Ne) (N := 4) hx hb ht in_Ne hown hK hP 0 rfl rfl 1 (by decide) (ht _ wd_1_36) (fun _ h9 => h9) rfl d_Ne_fire_11 ?_
  refine lv_iload_n hx hb d_Ne_fire_14 rfl (lv_at hl 2 rfl) ?_
  refine na_iald (k := t) hx hb hK hP 2 0 rfl rfl (by omega) (by decide) d_Ne_fire_15 ?_
  refine lv_ior hx hb d_Ne_fire_16 ?_
  have hP9 := hP.sub (ws' := [(n0, .inr (1, [.ref n1, .ref n2, .int (nI nz), .int nf])), (n1, .inl (cI, 8, .inl np)), (n2, .inl (cI, 8, .inl nq))]) [0, 1, 2] rfl
  have hD9 := hD.sub (ws' := [(n0, .inr (1, [.ref n1, .ref n2, .int (nI nz), .int nf])), (n1, .inl (cI, 8, .inl np)), (n2, .inl (cI, 8, .inl nq))]) [0, 1, 2] (by decide) rfl
  subst hQ
  exact W.iret (v := (x &&& ((np t) ^^^ (-1))) ||| (nq t)) hx hb hr (fun t9 ht9 hW => ⟨⟨(x &&& ((np t) ^^^ (-1))) ||| (nq t), (), rfl, trivial, by rw [ht9]; exact hP9, hD9⟩, hS.F ht9⟩) hS.2.2 d_Ne_fire_17

set_option maxHeartbeats 4000000 in
set_option maxRecDepth 100000 in
theorem c_Ne_add (l : Launch) (dC : Nat → ClassId) (dI : Nat → Nat → Nat) (cI cL cZ : ClassId) (sz : Nat) (n0 : Nat) (n1 : Nat) (n2 : Nat) (nz : Nat) (nf : Int32) (np : Nat → Int32) (nq : Nat → Int32) (x : Nat) (y : Int32) (hnz : nz < 8) (hnp : AllLt np 8 256) (hx8 : x < 256) : Met l y_Ne_add (Cond.code y_Ne_add prog_3_method_3_code 3 (some .int) :: wsA) { frames := 0, cells := 0, slots := 0, locals := 0 } (va_Pc [.ref n0, .int (nI x), .int y] (fun U => U.heap.size = sz ∧ va_P (dC, dI) clA [(n0, .inr (1, [.ref n1, .ref n2, .int (nI nz), .int nf])), (n1, .inl (cI, 8, .inl np)), (n2, .inl (cI, 8, .inl nq))] U.heap ∧ va_K (dC, dI) clA [(cI, .int), (cL, .long), (cZ, .boolean)] U ∧ va_D (fun _ => True) [(n0, .inr (1, [.ref n1, .ref n2, .int (nI nz), .int nf])), (n1, .inl (cI, 8, .inl np)), (n2, .inl (cI, 8, .inl nq))] ∧ NwA U)) (va_Qi (fun r (_ : Unit) => r = nI nz) (fun _ t => ∃ (np1 : Nat → Int32), ∃ (nq1 : Nat → Int32), (AllLt np1 8 256) ∧ va_P (dC, dI) clA [(n0, .inr (1, [.ref n1, .ref n2, .int (nI (nz + 1)), .int nf])), (n1, .inl (cI, 8, .inl np1)), (n2, .inl (cI, 8, .inl nq1))] t.heap ∧ va_D (va_A [(n0, .inr (1, [.ref n1, .ref n2, .int (nI nz), .int nf])), (n1, .inl (cI, 8, .inl np)), (n2, .inl (cI, 8, .inl nq))] sz) [(n0, .inr (1, [.ref n1, .ref n2, .int (nI (nz + 1)), .int nf])), (n1, .inl (cI, 8, .inl np1)), (n2, .inl (cI, 8, .inl nq1))]) (va_A [(n0, .inr (1, [.ref n1, .ref n2, .int (nI nz), .int nf])), (n1, .inl (cI, 8, .inl np)), (n2, .inl (cI, 8, .inl nq))] sz)) 0 0 (va_A [(n0, .inr (1, [.ref n1, .ref n2, .int (nI nz), .int nf])), (n1, .inl (cI, 8, .inl np)), (n2, .inl (cI, 8, .inl nq))] sz) := by
  refine Met.ofW (cc := prog_3_method_3_code) (maxL := 3) (ret := (some .int)) (by decide) rfl ?_
  intro p e s m args below meth c s₁ B hml hv
  obtain ⟨rfl, hsz, hP, hK, hD0, hN⟩ := hv
  have hx := B.exec
  have hb := B.bytes
  have hr := B.returns
  have ht : ∀ w ∈ wsA, w.before _ s = true := fun w h => atoms_spec (ws := (Cond.code y_Ne_add prog_3_method_3_code 3 (some .int) :: wsA)) B.pre w (List.mem_cons_of_mem _ h)
  have hown : s.vm.findClass "NetUnfolder$Net" = some m.cls := findClass_of_methodNamed B.named
  have hlocks := B.notSynchronized
  subst hsz
  have hD := hD0.self (sz := s.heap.size)
  generalize hAe : va_A [(n0, .inr (1, [.ref n1, .ref n2, .int (nI nz), .int nf])), (n1, .inl (cI, 8, .inl np)), (n2, .inl (cI, 8, .inl nq))] s.heap.size = A at hD ⊢
  have hA : ∀ q : Nat, s.heap.size ≤ q → A q := fun q h => by rw [← hAe]; exact Or.inr h
  have hS : va_S A s.heap s.heap [] := va_S.rf
  have hl := lv_entry ([.ref n0, .int (nI x), .int y]) (n := 3) (Nat.le_of_ble_eq_true rfl)
  rw [lg_entry_eq]
  generalize (lg_sl ([.ref n0, .int (nI x), .int y]) ++ List.replicate (3 - (lg_sl ([.ref n0, .int (nI x), .int y])).length) Slot.unset).toArray = ls at hl ⊢
  replace hl : lv_has ls 3 [(0, .ref n0), (1, .int (nI x)), (2, .int y)] := hl
  refine W_Q (fun Q hQ => ?_)
  refine lv_aload_n hx hb d_Ne_add_0 rfl (lv_at hl 0 rfl) ?_
  refine va_get (D := (dC, dI)) (ci := 1) (v := .ref n1) (C := "NetUnfolder$Net") (T := T_Ne) (N := 4) hx hb ht in_Ne hown hK hP 0 rfl rfl 0 (by decide) (ht _ wd_1_33) (fun _ h9 => h9) rfl d_Ne_add_1 ?_
  refine lv_aload_n hx hb d_Ne_add_4 rfl (lv_at hl 0 rfl) ?_
  refine va_get (D := (dC, dI)) (ci := 1) (v := .int (nI nz)) (C := "NetUnfolder$Net") (T := T_Ne) (N := 4) hx hb ht in_Ne hown hK hP 0 rfl rfl 2 (by decide) (ht _ wd_1_38) (fun _ h9 => h9) rfl d_Ne_add_5 ?_
  refine lv_iload_n hx hb d_Ne_add_8 rfl (lv_at hl 1 rfl) ?_
  refine na_iast (k := nz) hx hb hK hP hD hS 1 0 rfl rfl (by omega) (by decide) d_Ne_add_9 (fun H1 locs hPn hDn hSn => ?_)
  replace hP : va_P (dC, dI) clA [(n0, .inr (1, [.ref n1, .ref n2, .int (nI nz), .int nf])), (n1, .inl (cI, 8, .inl (upd np nz (nI x)))), (n2, .inl (cI, 8, .inl nq))] H1 := hPn
  replace hD : va_D A [(n0, .inr (1, [.ref n1, .ref n2, .int (nI nz), .int nf])), (n1, .inl (cI, 8, .inl (upd np nz (nI x)))), (n2, .inl (cI, 8, .inl nq))] := hDn
  replace hS := hSn
  clear hPn hDn hSn
  refine lv_aload_n hx hb d_Ne_add_10 rfl (lv_at hl 0 rfl) ?_
  refine va_get (D := (dC, dI)) (ci := 1) (v := .ref n2) (C := "NetUnfolder$Net") (T := T_Ne) (N := 4) hx hb ht in_Ne hown hK hP 0 rfl rfl 1 (by decide) (ht _ wd_1_36) (fun _ h9 => h9) rfl d_Ne_add_11 ?_
  refine lv_aload_n hx hb d_Ne_add_14 rfl (lv_at hl 0 rfl) ?_
  refine va_get (D := (dC, dI)) (ci := 1) (v := .int (nI nz)) (C := "NetUnfolder$Net") (T := T_Ne) (N := 4) hx hb ht in_Ne hown hK hP 0 rfl rfl 2 (by decide) (ht _ wd_1_38) (fun _ h9 => h9) rfl d_Ne_add_15 ?_
  refine lv_iload_n hx hb d_Ne_add_18 rfl (lv_at hl 2 rfl) ?_
  refine na_iast (k := nz) hx hb hK hP hD hS 2 0 rfl rfl (by omega) (by decide) d_Ne_add_19 (fun H2 locs hPn hDn hSn => ?_)
  replace hP : va_P (dC, dI) clA [(n0, .inr (1, [.ref n1, .ref n2, .int (nI nz), .int nf])), (n1, .inl (cI, 8, .inl (upd np nz (nI x)))), (n2, .inl (cI, 8, .inl (upd nq nz y)))] H2 := hPn
  replace hD : va_D A [(n0, .inr (1, [.ref n1, .ref n2, .int (nI nz), .int nf])), (n1, .inl (cI, 8, .inl (upd np nz (nI x)))), (n2, .inl (cI, 8, .inl (upd nq nz y)))] := hDn
  replace hS := hSn
  clear hPn hDn hSn
  refine lv_aload_n hx hb d_Ne_add_20 rfl (lv_at hl 0 rfl) ?_
  refine lv_dup hx hb d_Ne_add_21 rfl ?_
  refine va_get (D := (dC, dI)) (ci := 1) (v := .int (nI nz)) (C := "NetUnfolder$Net") (T := T_Ne) (N := 4) hx hb ht in_Ne hown hK hP 0 rfl rfl 2 (by decide) (ht _ wd_1_38) (fun _ h9 => h9) rfl d_Ne_add_22 ?_
  refine lv_iconst (v := 1) hx hb d_Ne_add_25 (by decide) ?_
  refine lv_iadd hx hb d_Ne_add_26 ?_
  refine ci_i (y := nI (nz + 1)) (cv_add nz 1) ?_
  refine va_put (D := (dC, dI)) (ci := 1) (v := .int (nI (nz + 1))) (ty := .int) (C := "NetUnfolder$Net") (T := T_Ne) (N := 4) hx hb ht in_Ne ty_Ne ok_Ne nm_Ne hown hK hP hD hS 0 rfl rfl 2 (by decide) (ht _ wd_1_38) (fun _ h9 => h9) rfl (by decide +kernel) rfl rfl (Nat.le_of_ble_eq_true rfl) d_Ne_add_27 (fun H3 locs hPn hDn hSn => ?_)
  replace hP : va_P (dC, dI) clA [(n0, .inr (1, [.ref n1, .ref n2, .int (nI (nz + 1)), .int nf])), (n1, .inl (cI, 8, .inl (upd np nz (nI x)))), (n2, .inl (cI, 8, .inl (upd nq nz y)))] H3 := hPn
  replace hD : va_D A [(n0, .inr (1, [.ref n1, .ref n2, .int (nI (nz + 1)), .int nf])), (n1, .inl (cI, 8, .inl (upd np nz (nI x)))), (n2, .inl (cI, 8, .inl (upd nq nz y)))] := hDn
  replace hS := hSn
  clear hPn hDn hSn
  refine lv_aload_n hx hb d_Ne_add_30 rfl (lv_at hl 0 rfl) ?_
  refine va_get (D := (dC, dI)) (ci := 1) (v := .int (nI (nz + 1))) (C := "NetUnfolder$Net") (T := T_Ne) (N := 4) hx hb ht in_Ne hown hK hP 0 rfl rfl 2 (by decide) (ht _ wd_1_38) (fun _ h9 => h9) rfl d_Ne_add_31 ?_
  refine lv_iconst (v := 1) hx hb d_Ne_add_34 (by decide) ?_
  refine lv_isub hx hb d_Ne_add_35 ?_
  refine ci_i (y := nI (nz + 1 - 1)) (cv_sub (a := nz + 1) (b := 1) (by omega)) ?_
  have hP9 := hP.sub (ws' := [(n0, .inr (1, [.ref n1, .ref n2, .int (nI (nz + 1)), .int nf])), (n1, .inl (cI, 8, .inl (upd np nz (nI x)))), (n2, .inl (cI, 8, .inl (upd nq nz y)))]) [0, 1, 2] rfl
  have hD9 := hD.sub (ws' := [(n0, .inr (1, [.ref n1, .ref n2, .int (nI (nz + 1)), .int nf])), (n1, .inl (cI, 8, .inl (upd np nz (nI x)))), (n2, .inl (cI, 8, .inl (upd nq nz y)))]) [0, 1, 2] (by decide) rfl
  subst hQ
  exact W.iret (v := nI (nz + 1 - 1)) hx hb hr (fun t9 ht9 hW => ⟨⟨nI (nz + 1 - 1), (), rfl, (by simp), (upd np nz (nI x)), (upd nq nz y), (AllLt.put hnp hx8), by rw [ht9]; exact hP9, hD9⟩, hS.F ht9⟩) hS.2.2 d_Ne_add_36

set_option maxHeartbeats 4000000 in
set_option maxRecDepth 100000 in
theorem c_Wa_drop (l : Launch) (dC : Nat → ClassId) (dI : Nat → Nat → Nat) (cI cL cZ : ClassId) (sz : Nat) (w0 : Nat) (w1 : Nat) (wl : Int32) : Met l y_Wa_drop (Cond.code y_Wa_drop prog_9_method_2_code 1 none :: wsA) { frames := 0, cells := 0, slots := 0, locals := 0 } (va_Pc [.ref w0] (fun U => U.heap.size = sz ∧ va_P (dC, dI) clA [(w0, .inr (3, [.ref w1, .int wl]))] U.heap ∧ va_K (dC, dI) clA [(cI, .int), (cL, .long), (cZ, .boolean)] U ∧ va_D (fun _ => True) [(w0, .inr (3, [.ref w1, .int wl]))] ∧ NwA U)) (va_Qv (fun _ : Unit => True) (fun _ t => va_P (dC, dI) clA [(w0, .inr (3, [.ref w1, .int (-1)]))] t.heap ∧ va_D (va_A [(w0, .inr (3, [.ref w1, .int wl]))] sz) [(w0, .inr (3, [.ref w1, .int (-1)]))]) (va_A [(w0, .inr (3, [.ref w1, .int wl]))] sz)) 0 0 (va_A [(w0, .inr (3, [.ref w1, .int wl]))] sz) := by
  refine Met.ofW (cc := prog_9_method_2_code) (maxL := 1) (ret := none) (by decide) rfl ?_
  intro p e s m args below meth c s₁ B hml hv
  obtain ⟨rfl, hsz, hP, hK, hD0, hN⟩ := hv
  have hx := B.exec
  have hb := B.bytes
  have hr := B.returns
  have ht : ∀ w ∈ wsA, w.before _ s = true := fun w h => atoms_spec (ws := (Cond.code y_Wa_drop prog_9_method_2_code 1 none :: wsA)) B.pre w (List.mem_cons_of_mem _ h)
  have hown : s.vm.findClass "NetUnfolder$Way" = some m.cls := findClass_of_methodNamed B.named
  have hlocks := B.notSynchronized
  subst hsz
  have hD := hD0.self (sz := s.heap.size)
  generalize hAe : va_A [(w0, .inr (3, [.ref w1, .int wl]))] s.heap.size = A at hD ⊢
  have hA : ∀ q : Nat, s.heap.size ≤ q → A q := fun q h => by rw [← hAe]; exact Or.inr h
  have hS : va_S A s.heap s.heap [] := va_S.rf
  have hl := lv_entry ([.ref w0]) (n := 1) (Nat.le_of_ble_eq_true rfl)
  rw [lg_entry_eq]
  generalize (lg_sl ([.ref w0]) ++ List.replicate (1 - (lg_sl ([.ref w0])).length) Slot.unset).toArray = ls at hl ⊢
  replace hl : lv_has ls 1 [(0, .ref w0)] := hl
  refine W_Q (fun Q hQ => ?_)
  refine lv_aload_n hx hb d_Wa_drop_0 rfl (lv_at hl 0 rfl) ?_
  refine lv_iconst (v := (-1)) hx hb d_Wa_drop_1 (by decide) ?_
  refine va_put (D := (dC, dI)) (ci := 3) (v := .int (-1)) (ty := .int) (C := "NetUnfolder$Way") (T := T_Wa) (N := 2) hx hb ht in_Wa ty_Wa ok_Wa nm_Wa hown hK hP hD hS 0 rfl rfl 1 (by decide) (ht _ wd_1_144) (fun _ h9 => h9) rfl (by decide +kernel) rfl rfl (Nat.le_of_ble_eq_true rfl) d_Wa_drop_2 (fun H1 locs hPn hDn hSn => ?_)
  replace hP : va_P (dC, dI) clA [(w0, .inr (3, [.ref w1, .int (-1)]))] H1 := hPn
  replace hD : va_D A [(w0, .inr (3, [.ref w1, .int (-1)]))] := hDn
  replace hS := hSn
  clear hPn hDn hSn
  have hP9 := hP.sub (ws' := [(w0, .inr (3, [.ref w1, .int (-1)]))]) [0] rfl
  have hD9 := hD.sub (ws' := [(w0, .inr (3, [.ref w1, .int (-1)]))]) [0] (by decide) rfl
  subst hQ
  exact W.vret hx hb hr (fun t9 ht9 hW => ⟨⟨(), rfl, trivial, by rw [ht9]; exact hP9, hD9⟩, hS.F ht9⟩) hS.2.2 d_Wa_drop_5

set_option maxHeartbeats 4000000 in
set_option maxRecDepth 100000 in
theorem c_Wa_begin (l : Launch) (dC : Nat → ClassId) (dI : Nat → Nat → Nat) (cI cL cZ : ClassId) (sz : Nat) (w0 : Nat) (w1 : Nat) (wl : Int32) : Met l y_Wa_begin (Cond.code y_Wa_begin prog_9_method_3_code 1 none :: wsA) { frames := 0, cells := 0, slots := 0, locals := 0 } (va_Pc [.ref w0] (fun U => U.heap.size = sz ∧ va_P (dC, dI) clA [(w0, .inr (3, [.ref w1, .int wl]))] U.heap ∧ va_K (dC, dI) clA [(cI, .int), (cL, .long), (cZ, .boolean)] U ∧ va_D (fun _ => True) [(w0, .inr (3, [.ref w1, .int wl]))] ∧ NwA U)) (va_Qv (fun _ : Unit => True) (fun _ t => va_P (dC, dI) clA [(w0, .inr (3, [.ref w1, .int 0]))] t.heap ∧ va_D (va_A [(w0, .inr (3, [.ref w1, .int wl]))] sz) [(w0, .inr (3, [.ref w1, .int 0]))]) (va_A [(w0, .inr (3, [.ref w1, .int wl]))] sz)) 0 0 (va_A [(w0, .inr (3, [.ref w1, .int wl]))] sz) := by
  refine Met.ofW (cc := prog_9_method_3_code) (maxL := 1) (ret := none) (by decide) rfl ?_
  intro p e s m args below meth c s₁ B hml hv
  obtain ⟨rfl, hsz, hP, hK, hD0, hN⟩ := hv
  have hx := B.exec
  have hb := B.bytes
  have hr := B.returns
  have ht : ∀ w ∈ wsA, w.before _ s = true := fun w h => atoms_spec (ws := (Cond.code y_Wa_begin prog_9_method_3_code 1 none :: wsA)) B.pre w (List.mem_cons_of_mem _ h)
  have hown : s.vm.findClass "NetUnfolder$Way" = some m.cls := findClass_of_methodNamed B.named
  have hlocks := B.notSynchronized
  subst hsz
  have hD := hD0.self (sz := s.heap.size)
  generalize hAe : va_A [(w0, .inr (3, [.ref w1, .int wl]))] s.heap.size = A at hD ⊢
  have hA : ∀ q : Nat, s.heap.size ≤ q → A q := fun q h => by rw [← hAe]; exact Or.inr h
  have hS : va_S A s.heap s.heap [] := va_S.rf
  have hl := lv_entry ([.ref w0]) (n := 1) (Nat.le_of_ble_eq_true rfl)
  rw [lg_entry_eq]
  generalize (lg_sl ([.ref w0]) ++ List.replicate (1 - (lg_sl ([.ref w0])).length) Slot.unset).toArray = ls at hl ⊢
  replace hl : lv_has ls 1 [(0, .ref w0)] := hl
  refine W_Q (fun Q hQ => ?_)
  refine lv_aload_n hx hb d_Wa_begin_0 rfl (lv_at hl 0 rfl) ?_
  refine lv_iconst (v := 0) hx hb d_Wa_begin_1 (by decide) ?_
  refine va_put (D := (dC, dI)) (ci := 3) (v := .int 0) (ty := .int) (C := "NetUnfolder$Way") (T := T_Wa) (N := 2) hx hb ht in_Wa ty_Wa ok_Wa nm_Wa hown hK hP hD hS 0 rfl rfl 1 (by decide) (ht _ wd_1_144) (fun _ h9 => h9) rfl (by decide +kernel) rfl rfl (Nat.le_of_ble_eq_true rfl) d_Wa_begin_2 (fun H1 locs hPn hDn hSn => ?_)
  replace hP : va_P (dC, dI) clA [(w0, .inr (3, [.ref w1, .int 0]))] H1 := hPn
  replace hD : va_D A [(w0, .inr (3, [.ref w1, .int 0]))] := hDn
  replace hS := hSn
  clear hPn hDn hSn
  have hP9 := hP.sub (ws' := [(w0, .inr (3, [.ref w1, .int 0]))]) [0] rfl
  have hD9 := hD.sub (ws' := [(w0, .inr (3, [.ref w1, .int 0]))]) [0] (by decide) rfl
  subst hQ
  exact W.vret hx hb hr (fun t9 ht9 hW => ⟨⟨(), rfl, trivial, by rw [ht9]; exact hP9, hD9⟩, hS.F ht9⟩) hS.2.2 d_Wa_begin_5

set_option maxHeartbeats 4000000 in
set_option maxRecDepth 100000 in
theorem c_Wa_add (l : Launch) (dC : Nat → ClassId) (dI : Nat → Nat → Nat) (cI cL cZ : ClassId) (sz : Nat) (w0 : Nat) (w1 : Nat) (wl : Int32) (wf : Nat → Int32) (t : Int32) (hwl : WayI wl) : Met l y_Wa_add (Cond.code y_Wa_add prog_9_method_4_code 2 none :: wsA) { frames := 0, cells := 0, slots := 0, locals := 0 } (va_Pc [.ref w0, .int t] (fun U => U.heap.size = sz ∧ va_P (dC, dI) clA [(w0, .inr (3, [.ref w1, .int wl])), (w1, .inl (cI, 31, .inl wf))] U.heap ∧ va_K (dC, dI) clA [(cI, .int), (cL, .long), (cZ, .boolean)] U ∧ va_D (fun _ => True) [(w0, .inr (3, [.ref w1, .int wl])), (w1, .inl (cI, 31, .inl wf))] ∧ NwA U)) (va_Qv (fun _ : Unit => True) (fun _ t => ∃ (wl1 : Int32), ∃ (wf1 : Nat → Int32), (WayI wl1) ∧ va_P (dC, dI) clA [(w0, .inr (3, [.ref w1, .int wl1])), (w1, .inl (cI, 31, .inl wf1))] t.heap ∧ va_D (va_A [(w0, .inr (3, [.ref w1, .int wl])), (w1, .inl (cI, 31, .inl wf))] sz) [(w0, .inr (3, [.ref w1, .int wl1])), (w1, .inl (cI, 31, .inl wf1))]) (va_A [(w0, .inr (3, [.ref w1, .int wl])), (w1, .inl (cI, 31, .inl wf))] sz)) 0 0 (va_A [(w0, .inr (3, [.ref w1, .int wl])), (w1, .inl (cI, 31, .inl wf))] sz) := by
  refine Met.ofW (cc := prog_9_method_4_code) (maxL := 2) (ret := none) (by decide) rfl ?_
  intro p e s m args below meth c s₁ B hml hv
  obtain ⟨rfl, hsz, hP, hK, hD0, hN⟩ := hv
  have hx := B.exec
  have hb := B.bytes
  have hr := B.returns
  have ht : ∀ w ∈ wsA, w.before _ s = true := fun w h => atoms_spec (ws := (Cond.code y_Wa_add prog_9_method_4_code 2 none :: wsA)) B.pre w (List.mem_cons_of_mem _ h)
  have hown : s.vm.findClass "NetUnfolder$Way" = some m.cls := findClass_of_methodNamed B.named
  have hlocks := B.notSynchronized
  subst hsz
  have hD := hD0.self (sz := s.heap.size)
  generalize hAe : va_A [(w0, .inr (3, [.ref w1, .int wl])), (w1, .inl (cI, 31, .inl wf))] s.heap.size = A at hD ⊢
  have hA : ∀ q : Nat, s.heap.size ≤ q → A q := fun q h => by rw [← hAe]; exact Or.inr h
  have hS : va_S A s.heap s.heap [] := va_S.rf
  have hl := lv_entry ([.ref w0, .int t]) (n := 2) (Nat.le_of_ble_eq_true rfl)
  rw [lg_entry_eq]
  generalize (lg_sl ([.ref w0, .int t]) ++ List.replicate (2 - (lg_sl ([.ref w0, .int t])).length) Slot.unset).toArray = ls at hl ⊢
  replace hl : lv_has ls 2 [(0, .ref w0), (1, .int t)] := hl
  refine W_Q (fun Q hQ => ?_)
  refine lv_aload_n hx hb d_Wa_add_0 rfl (lv_at hl 0 rfl) ?_
  refine va_get (D := (dC, dI)) (ci := 3) (v := .int wl) (C := "NetUnfolder$Way") (T := T_Wa) (N := 2) hx hb ht in_Wa hown hK hP 0 rfl rfl 1 (by decide) (ht _ wd_1_144) (fun _ h9 => h9) rfl d_Wa_add_1 ?_
  refine lv_if_lt (tgt := 39) hx hb d_Wa_add_4 (by decide) (fun hb1 => ?_) (fun hb1 => ?_)
  · skip
    have hP9 := hP.sub (ws' := [(w0, .inr (3, [.ref w1, .int wl])), (w1, .inl (cI, 31, .inl wf))]) [0, 1] rfl
    have hD9 := hD.sub (ws' := [(w0, .inr (3, [.ref w1, .int wl])), (w1, .inl (cI, 31, .inl wf))]) [0, 1] (by decide) rfl
    subst hQ
    exact W.vret hx hb hr (fun t9 ht9 hW => ⟨⟨(), rfl, trivial, wl, wf, (by first | assumption | exact WayI.of (by omega)), by rw [ht9]; exact hP9, hD9⟩, hS.F ht9⟩) hS.2.2 d_Wa_add_39
  · skip
    obtain ⟨j2, hj3, rfl⟩ := WayI.nat hwl hb1
    refine lv_aload_n hx hb d_Wa_add_7 rfl (lv_at hl 0 rfl) ?_
    refine va_get (D := (dC, dI)) (ci := 3) (v := .int (nI j2)) (C := "NetUnfolder$Way") (T := T_Wa) (N := 2) hx hb ht in_Wa hown hK hP 0 rfl rfl 1 (by decide) (ht _ wd_1_144) (fun _ h9 => h9) rfl d_Wa_add_8 ?_
    refine lv_aload_n hx hb d_Wa_add_11 rfl (lv_at hl 0 rfl) ?_
    refine va_get (D := (dC, dI)) (ci := 3) (v := .ref w1) (C := "NetUnfolder$Way") (T := T_Wa) (N := 2) hx hb ht in_Wa hown hK hP 0 rfl rfl 0 (by decide) (ht _ wd_1_143) (fun _ h9 => h9) rfl d_Wa_add_12 ?_
    refine va_alen hx hb hK hP 1 0 rfl rfl (v := 31) rfl d_Wa_add_15 ?_
    refine lv_icmp_ge (tgt := 39) hx hb d_Wa_add_16 (by decide) (fun hb4 => ?_) (fun hb4 => ?_)
    · skip
      replace hb4 := cv_le (a := 31) (b := j2) (by omega) (by omega) hb4
      have hP9 := hP.sub (ws' := [(w0, .inr (3, [.ref w1, .int (nI j2)])), (w1, .inl (cI, 31, .inl wf))]) [0, 1] rfl
      have hD9 := hD.sub (ws' := [(w0, .inr (3, [.ref w1, .int (nI j2)])), (w1, .inl (cI, 31, .inl wf))]) [0, 1] (by decide) rfl
      subst hQ
      exact W.vret hx hb hr (fun t9 ht9 hW => ⟨⟨(), rfl, trivial, (nI j2), wf, (by first | assumption | exact WayI.of (by omega)), by rw [ht9]; exact hP9, hD9⟩, hS.F ht9⟩) hS.2.2 d_Wa_add_39
    · skip
      replace hb4 := cv_nle (a := 31) (b := j2) (by omega) (by omega) hb4
      refine lv_aload_n hx hb d_Wa_add_19 rfl (lv_at hl 0 rfl) ?_
      refine va_get (D := (dC, dI)) (ci := 3) (v := .ref w1) (C := "NetUnfolder$Way") (T := T_Wa) (N := 2) hx hb ht in_Wa hown hK hP 0 rfl rfl 0 (by decide) (ht _ wd_1_143) (fun _ h9 => h9) rfl d_Wa_add_20 ?_
      refine lv_aload_n hx hb d_Wa_add_23 rfl (lv_at hl 0 rfl) ?_
      refine va_get (D := (dC, dI)) (ci := 3) (v := .int (nI j2)) (C := "NetUnfolder$Way") (T := T_Wa) (N := 2) hx hb ht in_Wa hown hK hP 0 rfl rfl 1 (by decide) (ht _ wd_1_144) (fun _ h9 => h9) rfl d_Wa_add_24 ?_
      refine lv_iload_n hx hb d_Wa_add_27 rfl (lv_at hl 1 rfl) ?_
      refine na_iast (k := j2) hx hb hK hP hD hS 1 0 rfl rfl (by omega) (by decide) d_Wa_add_28 (fun H5 locs hPn hDn hSn => ?_)
      replace hP : va_P (dC, dI) clA [(w0, .inr (3, [.ref w1, .int (nI j2)])), (w1, .inl (cI, 31, .inl (upd wf j2 t)))] H5 := hPn
      replace hD : va_D A [(w0, .inr (3, [.ref w1, .int (nI j2)])), (w1, .inl (cI, 31, .inl (upd wf j2 t)))] := hDn
      replace hS := hSn
      clear hPn hDn hSn
      refine lv_aload_n hx hb d_Wa_add_29 rfl (lv_at hl 0 rfl) ?_
      refine lv_dup hx hb d_Wa_add_30 rfl ?_
      refine va_get (D := (dC, dI)) (ci := 3) (v := .int (nI j2)) (C := "NetUnfolder$Way") (T := T_Wa) (N := 2) hx hb ht in_Wa hown hK hP 0 rfl rfl 1 (by decide) (ht _ wd_1_144) (fun _ h9 => h9) rfl d_Wa_add_31 ?_
      refine lv_iconst (v := 1) hx hb d_Wa_add_34 (by decide) ?_
      refine lv_iadd hx hb d_Wa_add_35 ?_
      refine ci_i (y := nI (j2 + 1)) (cv_add j2 1) ?_
      refine va_put (D := (dC, dI)) (ci := 3) (v := .int (nI (j2 + 1))) (ty := .int) (C := "NetUnfolder$Way") (T := T_Wa) (N := 2) hx hb ht in_Wa ty_Wa ok_Wa nm_Wa hown hK hP hD hS 0 rfl rfl 1 (by decide) (ht _ wd_1_144) (fun _ h9 => h9) rfl (by decide +kernel) rfl rfl (Nat.le_of_ble_eq_true rfl) d_Wa_add_36 (fun H6 locs hPn hDn hSn => ?_)
      replace hP : va_P (dC, dI) clA [(w0, .inr (3, [.ref w1, .int (nI (j2 + 1))])), (w1, .inl (cI, 31, .inl (upd wf j2 t)))] H6 := hPn
      replace hD : va_D A [(w0, .inr (3, [.ref w1, .int (nI (j2 + 1))])), (w1, .inl (cI, 31, .inl (upd wf j2 t)))] := hDn
      replace hS := hSn
      clear hPn hDn hSn
      have hP9 := hP.sub (ws' := [(w0, .inr (3, [.ref w1, .int (nI (j2 + 1))])), (w1, .inl (cI, 31, .inl (upd wf j2 t)))]) [0, 1] rfl
      have hD9 := hD.sub (ws' := [(w0, .inr (3, [.ref w1, .int (nI (j2 + 1))])), (w1, .inl (cI, 31, .inl (upd wf j2 t)))]) [0, 1] (by decide) rfl
      subst hQ
      exact W.vret hx hb hr (fun t9 ht9 hW => ⟨⟨(), rfl, trivial, (nI (j2 + 1)), (upd wf j2 t), (by first | assumption | exact WayI.of (by omega)), by rw [ht9]; exact hP9, hD9⟩, hS.F ht9⟩) hS.2.2 d_Wa_add_39

set_option maxHeartbeats 4000000 in
set_option maxRecDepth 100000 in
theorem c_Wa_step (l : Launch) (dC : Nat → ClassId) (dI : Nat → Nat → Nat) (cI cL cZ : ClassId) (sz : Nat) (w0 : Nat) (w1 : Nat) (wl : Int32) (wf : Nat → Int32) (k : Int32) (hwl : WayI wl) : Met l y_Wa_step (Cond.code y_Wa_step prog_9_method_5_code 2 (some .int) :: wsA) { frames := 0, cells := 0, slots := 0, locals := 0 } (va_Pc [.ref w0, .int k] (fun U => U.heap.size = sz ∧ va_P (dC, dI) clA [(w0, .inr (3, [.ref w1, .int wl])), (w1, .inl (cI, 31, .inl wf))] U.heap ∧ va_K (dC, dI) clA [(cI, .int), (cL, .long), (cZ, .boolean)] U ∧ va_D (fun _ => True) [(w0, .inr (3, [.ref w1, .int wl])), (w1, .inl (cI, 31, .inl wf))] ∧ NwA U)) (va_Qi (fun r (_ : Unit) => True) (fun _ t => va_P (dC, dI) clA [(w0, .inr (3, [.ref w1, .int wl])), (w1, .inl (cI, 31, .inl wf))] t.heap ∧ va_D (va_A [(w0, .inr (3, [.ref w1, .int wl])), (w1, .inl (cI, 31, .inl wf))] sz) [(w0, .inr (3, [.ref w1, .int wl])), (w1, .inl (cI, 31, .inl wf))]) (va_A [(w0, .inr (3, [.ref w1, .int wl])), (w1, .inl (cI, 31, .inl wf))] sz)) 0 0 (va_A [(w0, .inr (3, [.ref w1, .int wl])), (w1, .inl (cI, 31, .inl wf))] sz) := by
  refine Met.ofW (cc := prog_9_method_5_code) (maxL := 2) (ret := (some .int)) (by decide) rfl ?_
  intro p e s m args below meth c s₁ B hml hv
  obtain ⟨rfl, hsz, hP, hK, hD0, hN⟩ := hv
  have hx := B.exec
  have hb := B.bytes
  have hr := B.returns
  have ht : ∀ w ∈ wsA, w.before _ s = true := fun w h => atoms_spec (ws := (Cond.code y_Wa_step prog_9_method_5_code 2 (some .int) :: wsA)) B.pre w (List.mem_cons_of_mem _ h)
  have hown : s.vm.findClass "NetUnfolder$Way" = some m.cls := findClass_of_methodNamed B.named
  have hlocks := B.notSynchronized
  subst hsz
  have hD := hD0.self (sz := s.heap.size)
  generalize hAe : va_A [(w0, .inr (3, [.ref w1, .int wl])), (w1, .inl (cI, 31, .inl wf))] s.heap.size = A at hD ⊢
  have hA : ∀ q : Nat, s.heap.size ≤ q → A q := fun q h => by rw [← hAe]; exact Or.inr h
  have hS : va_S A s.heap s.heap [] := va_S.rf
  have hl := lv_entry ([.ref w0, .int k]) (n := 2) (Nat.le_of_ble_eq_true rfl)
  rw [lg_entry_eq]
  generalize (lg_sl ([.ref w0, .int k]) ++ List.replicate (2 - (lg_sl ([.ref w0, .int k])).length) Slot.unset).toArray = ls at hl ⊢
  replace hl : lv_has ls 2 [(0, .ref w0), (1, .int k)] := hl
  refine W_Q (fun Q hQ => ?_)
  refine lv_iload_n hx hb d_Wa_step_0 rfl (lv_at hl 1 rfl) ?_
  refine lv_if_lt (tgt := 21) hx hb d_Wa_step_1 (by decide) (fun hb1 => ?_) (fun hb1 => ?_)
  · skip
    refine lv_iconst (v := (-1)) hx hb d_Wa_step_21 (by decide) ?_
    have hP9 := hP.sub (ws' := [(w0, .inr (3, [.ref w1, .int wl])), (w1, .inl (cI, 31, .inl wf))]) [0, 1] rfl
    have hD9 := hD.sub (ws' := [(w0, .inr (3, [.ref w1, .int wl])), (w1, .inl (cI, 31, .inl wf))]) [0, 1] (by decide) rfl
    subst hQ
    exact W.iret (v := (-1)) hx hb hr (fun t9 ht9 hW => ⟨⟨(-1), (), rfl, trivial, by rw [ht9]; exact hP9, hD9⟩, hS.F ht9⟩) hS.2.2 d_Wa_step_22
  · skip
    refine lv_iload_n hx hb d_Wa_step_4 rfl (lv_at hl 1 rfl) ?_
    refine lv_aload_n hx hb d_Wa_step_5 rfl (lv_at hl 0 rfl) ?_
    refine va_get (D := (dC, dI)) (ci := 3) (v := .int wl) (C := "NetUnfolder$Way") (T := T_Wa) (N := 2) hx hb ht in_Wa hown hK hP 0 rfl rfl 1 (by decide) (ht _ wd_1_144) (fun _ h9 => h9) rfl d_Wa_step_6 ?_
    refine lv_icmp_ge (tgt := 21) hx hb d_Wa_step_9 (by decide) (fun hb2 => ?_) (fun hb2 => ?_)
    · skip
      refine lv_iconst (v := (-1)) hx hb d_Wa_step_21 (by decide) ?_
      have hP9 := hP.sub (ws' := [(w0, .inr (3, [.ref w1, .int wl])), (w1, .inl (cI, 31, .inl wf))]) [0, 1] rfl
      have hD9 := hD.sub (ws' := [(w0, .inr (3, [.ref w1, .int wl])), (w1, .inl (cI, 31, .inl wf))]) [0, 1] (by decide) rfl
      subst hQ
      exact W.iret (v := (-1)) hx hb hr (fun t9 ht9 hW => ⟨⟨(-1), (), rfl, trivial, by rw [ht9]; exact hP9, hD9⟩, hS.F ht9⟩) hS.2.2 d_Wa_step_22
    · skip
      obtain ⟨j3, hj4, rfl⟩ := WayI.ix hwl hb1 hb2
      refine lv_aload_n hx hb d_Wa_step_12 rfl (lv_at hl 0 rfl) ?_
      refine va_get (D := (dC, dI)) (ci := 3) (v := .ref w1) (C := "NetUnfolder$Way") (T := T_Wa) (N := 2) hx hb ht in_Wa hown hK hP 0 rfl rfl 0 (by decide) (ht _ wd_1_143) (fun _ h9 => h9) rfl d_Wa_step_13 ?_
      refine lv_iload_n hx hb d_Wa_step_16 rfl (lv_at hl 1 rfl) ?_
      refine na_iald (k := j3) hx hb hK hP 1 0 rfl rfl (by omega) (by decide) d_Wa_step_17 ?_
      refine lv_goto (tgt := 22) hx hb d_Wa_step_18 (by decide) ?_
      have hP9 := hP.sub (ws' := [(w0, .inr (3, [.ref w1, .int wl])), (w1, .inl (cI, 31, .inl wf))]) [0, 1] rfl
      have hD9 := hD.sub (ws' := [(w0, .inr (3, [.ref w1, .int wl])), (w1, .inl (cI, 31, .inl wf))]) [0, 1] (by decide) rfl
      subst hQ
      exact W.iret (v := wf j3) hx hb hr (fun t9 ht9 hW => ⟨⟨wf j3, (), rfl, trivial, by rw [ht9]; exact hP9, hD9⟩, hS.F ht9⟩) hS.2.2 d_Wa_step_22
