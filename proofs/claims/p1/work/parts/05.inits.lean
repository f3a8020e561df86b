set_option maxHeartbeats 4000000 in
set_option maxRecDepth 100000 in
theorem c_Ne_init (l : Launch) (dC : Nat → ClassId) (dI : Nat → Nat → Nat) (cI cL cZ : ClassId) (sz : Nat) (h0 : Nat) : Met l y_Ne_init (Cond.code y_Ne_init prog_3_method_1_code 1 none :: wsA) { frames := 1, cells := 2, slots := 16, locals := 12 } (va_Pc [.ref h0] (fun U => U.heap.size = sz ∧ va_P (dC, dI) clA [(h0, .inr (1, [.null, .null, .int 0, .int 0]))] U.heap ∧ va_K (dC, dI) clA [(cI, .int), (cL, .long), (cZ, .boolean)] U ∧ va_D (fun _ => True) [(h0, .inr (1, [.null, .null, .int 0, .int 0]))] ∧ NwA U)) (va_Qv (fun _ : Unit => True) (fun _ t => ∃ q1 q4 : Nat, va_P (dC, dI) clA [(h0, .inr (1, [.ref q1, .ref q4, .int 0, .int 0])), (q1, .inl (cI, 8, .inl (fun _ => 0))), (q4, .inl (cI, 8, .inl (fun _ => 0)))] t.heap ∧ va_D (va_A [(h0, .inr (1, [.null, .null, .int 0, .int 0]))] sz) [(h0, .inr (1, [.ref q1, .ref q4, .int 0, .int 0])), (q1, .inl (cI, 8, .inl (fun _ => 0))), (q4, .inl (cI, 8, .inl (fun _ => 0)))]) (va_A [(h0, .inr (1, [.null, .null, .int 0, .int 0]))] sz)) 2 16 (va_A [(h0, .inr (1, [.null, .null, .int 0, .int 0]))] sz) := by
  refine Met.ofW (cc := prog_3_method_1_code) (maxL := 1) (ret := none) (by decide) rfl ?_
  intro p e s m args below meth c s₁ B hml hv
  obtain ⟨rfl, hsz, hP, hK, hD0, hN⟩ := hv
  have hx := B.exec
  have hb := B.bytes
  have hr := B.returns
  have ht : ∀ w ∈ wsA, w.before _ s = true := fun w h => atoms_spec (ws := (Cond.code y_Ne_init prog_3_method_1_code 1 none :: wsA)) B.pre w (List.mem_cons_of_mem _ h)
  have hown : s.vm.findClass "NetUnfolder$Net" = some m.cls := findClass_of_methodNamed B.named
  have hlocks := B.notSynchronized
  have hin : meth.name = "<init>" := (name_of_methodNamed B.named B.method).1
  subst hsz
  have hD := hD0.self (sz := s.heap.size)
  generalize hAe : va_A [(h0, .inr (1, [.null, .null, .int 0, .int 0]))] s.heap.size = A at hD ⊢
  have hA : ∀ q : Nat, s.heap.size ≤ q → A q := fun q h => by rw [← hAe]; exact Or.inr h
  have hS : va_S A s.heap s.heap [] := va_S.rf
  have hl := lv_entry ([.ref h0]) (n := 1) (Nat.le_of_ble_eq_true rfl)
  rw [lg_entry_eq]
  generalize (lg_sl ([.ref h0]) ++ List.replicate (1 - (lg_sl ([.ref h0])).length) Slot.unset).toArray = ls at hl ⊢
  replace hl : lv_has ls 1 [(0, .ref h0)] := hl
  refine lv_aload_n hx hb d_Ne_init_0 rfl (lv_at hl 0 rfl) ?_
  refine W.objInit hx hb hown (ht (.methodLink "NetUnfolder$Net" 3 Lib.objectInit) wd_1_32) (ht (.instanceMethod Lib.objectInit) wd_1_25) (ht (.code Lib.objectInit ⟨#[0xb1]⟩ 1 none) wd_1_26) rfl (by rw [hml]; exact hl.1) rfl d_Ne_init_1 (Nat.le_of_ble_eq_true rfl) (Nat.le_of_ble_eq_true rfl) ?_
  refine W.eq (g2 := F0 m 4 ls []) rfl ?_
  refine lv_aload_n hx hb d_Ne_init_4 rfl (lv_at hl 0 rfl) ?_
  refine lv_bipush (v := 8) hx hb d_Ne_init_5 (by decide) ?_
  refine nx_newaI hx hb (ht _ wd_1_55) hK hP hD hS hA 0 rfl (N' := 8) (by decide) (by decide) (Nat.le_of_ble_eq_true rfl) (Nat.le_of_ble_eq_true rfl) (Nat.le_of_ble_eq_true rfl) d_Ne_init_7 (fun q1 H2 hPn hDn hSn => ?_)
  replace hP : va_P (dC, dI) clA [(h0, .inr (1, [.null, .null, .int 0, .int 0])), (q1, .inl (cI, 8, .inl (fun _ => 0)))] H2 := hPn
  replace hD : va_D A [(h0, .inr (1, [.null, .null, .int 0, .int 0])), (q1, .inl (cI, 8, .inl (fun _ => 0)))] := hDn
  replace hS := hSn
  clear hPn hDn hSn
  refine W.cs (cells' := 1) (slots' := 8) rfl rfl ?_
  refine va_putF (D := (dC, dI)) (ci := 1) (v := .ref q1) (ty := .array .int) (C := "NetUnfolder$Net") (T := T_Ne) (N := 4) hx hb ht in_Ne ty_Ne ok_Ne nm_Ne hown hK hP hD hS 0 rfl rfl 0 (by decide) (ht _ wd_1_33) (fun _ h9 => h9) rfl hin rfl (by decide +kernel) rfl rfl (Nat.le_of_ble_eq_true rfl) d_Ne_init_9 (fun H3 locs hPn hDn hSn => ?_)
  replace hP : va_P (dC, dI) clA [(h0, .inr (1, [.ref q1, .null, .int 0, .int 0])), (q1, .inl (cI, 8, .inl (fun _ => 0)))] H3 := hPn
  replace hD : va_D A [(h0, .inr (1, [.ref q1, .null, .int 0, .int 0])), (q1, .inl (cI, 8, .inl (fun _ => 0)))] := hDn
  replace hS := hSn
  clear hPn hDn hSn
  refine lv_aload_n hx hb d_Ne_init_12 rfl (lv_at hl 0 rfl) ?_
  refine lv_bipush (v := 8) hx hb d_Ne_init_13 (by decide) ?_
  refine nx_newaI hx hb (ht _ wd_1_55) hK hP hD hS hA 0 rfl (N' := 8) (by decide) (by decide) (Nat.le_of_ble_eq_true rfl) (Nat.le_of_ble_eq_true rfl) (Nat.le_of_ble_eq_true rfl) d_Ne_init_15 (fun q4 H5 hPn hDn hSn => ?_)
  replace hP : va_P (dC, dI) clA [(h0, .inr (1, [.ref q1, .null, .int 0, .int 0])), (q1, .inl (cI, 8, .inl (fun _ => 0))), (q4, .inl (cI, 8, .inl (fun _ => 0)))] H5 := hPn
  replace hD : va_D A [(h0, .inr (1, [.ref q1, .null, .int 0, .int 0])), (q1, .inl (cI, 8, .inl (fun _ => 0))), (q4, .inl (cI, 8, .inl (fun _ => 0)))] := hDn
  replace hS := hSn
  clear hPn hDn hSn
  refine W.cs (cells' := 2) (slots' := 16) rfl rfl ?_
  refine va_putF (D := (dC, dI)) (ci := 1) (v := .ref q4) (ty := .array .int) (C := "NetUnfolder$Net") (T := T_Ne) (N := 4) hx hb ht in_Ne ty_Ne ok_Ne nm_Ne hown hK hP hD hS 0 rfl rfl 1 (by decide) (ht _ wd_1_36) (fun _ h9 => h9) rfl hin rfl (by decide +kernel) rfl rfl (Nat.le_of_ble_eq_true rfl) d_Ne_init_17 (fun H6 locs hPn hDn hSn => ?_)
  replace hP : va_P (dC, dI) clA [(h0, .inr (1, [.ref q1, .ref q4, .int 0, .int 0])), (q1, .inl (cI, 8, .inl (fun _ => 0))), (q4, .inl (cI, 8, .inl (fun _ => 0)))] H6 := hPn
  replace hD : va_D A [(h0, .inr (1, [.ref q1, .ref q4, .int 0, .int 0])), (q1, .inl (cI, 8, .inl (fun _ => 0))), (q4, .inl (cI, 8, .inl (fun _ => 0)))] := hDn
  replace hS := hSn
  clear hPn hDn hSn
  have hP9 := hP.sub (ws' := [(h0, .inr (1, [.ref q1, .ref q4, .int 0, .int 0])), (q1, .inl (cI, 8, .inl (fun _ => 0))), (q4, .inl (cI, 8, .inl (fun _ => 0)))]) [0, 1, 2] rfl
  have hD9 := hD.sub (ws' := [(h0, .inr (1, [.ref q1, .ref q4, .int 0, .int 0])), (q1, .inl (cI, 8, .inl (fun _ => 0))), (q4, .inl (cI, 8, .inl (fun _ => 0)))]) [0, 1, 2] (by decide) rfl
  exact W.vret hx hb hr (fun t ht9 hW => ⟨⟨(), rfl, trivial, q1, q4, by rw [ht9]; exact hP9, hD9⟩, hS.F ht9⟩) hS.2.2 d_Ne_init_20

set_option maxHeartbeats 4000000 in
set_option maxRecDepth 100000 in
theorem c_Wa_init (l : Launch) (dC : Nat → ClassId) (dI : Nat → Nat → Nat) (cI cL cZ : ClassId) (sz : Nat) (h0 : Nat) : Met l y_Wa_init (Cond.code y_Wa_init prog_9_method_1_code 1 none :: wsA) { frames := 1, cells := 1, slots := 31, locals := 12 } (va_Pc [.ref h0] (fun U => U.heap.size = sz ∧ va_P (dC, dI) clA [(h0, .inr (3, [.null, .int 0]))] U.heap ∧ va_K (dC, dI) clA [(cI, .int), (cL, .long), (cZ, .boolean)] U ∧ va_D (fun _ => True) [(h0, .inr (3, [.null, .int 0]))] ∧ NwA U)) (va_Qv (fun _ : Unit => True) (fun _ t => ∃ q1 : Nat, va_P (dC, dI) clA [(h0, .inr (3, [.ref q1, .int (-1)])), (q1, .inl (cI, 31, .inl (fun _ => 0)))] t.heap ∧ va_D (va_A [(h0, .inr (3, [.null, .int 0]))] sz) [(h0, .inr (3, [.ref q1, .int (-1)])), (q1, .inl (cI, 31, .inl (fun _ => 0)))]) (va_A [(h0, .inr (3, [.null, .int 0]))] sz)) 1 31 (va_A [(h0, .inr (3, [.null, .int 0]))] sz) := by
  refine Met.ofW (cc := prog_9_method_1_code) (maxL := 1) (ret := none) (by decide) rfl ?_
  intro p e s m args below meth c s₁ B hml hv
  obtain ⟨rfl, hsz, hP, hK, hD0, hN⟩ := hv
  have hx := B.exec
  have hb := B.bytes
  have hr := B.returns
  have ht : ∀ w ∈ wsA, w.before _ s = true := fun w h => atoms_spec (ws := (Cond.code y_Wa_init prog_9_method_1_code 1 none :: wsA)) B.pre w (List.mem_cons_of_mem _ h)
  have hown : s.vm.findClass "NetUnfolder$Way" = some m.cls := findClass_of_methodNamed B.named
  have hlocks := B.notSynchronized
  have hin : meth.name = "<init>" := (name_of_methodNamed B.named B.method).1
  subst hsz
  have hD := hD0.self (sz := s.heap.size)
  generalize hAe : va_A [(h0, .inr (3, [.null, .int 0]))] s.heap.size = A at hD ⊢
  have hA : ∀ q : Nat, s.heap.size ≤ q → A q := fun q h => by rw [← hAe]; exact Or.inr h
  have hS : va_S A s.heap s.heap [] := va_S.rf
  have hl := lv_entry ([.ref h0]) (n := 1) (Nat.le_of_ble_eq_true rfl)
  rw [lg_entry_eq]
  generalize (lg_sl ([.ref h0]) ++ List.replicate (1 - (lg_sl ([.ref h0])).length) Slot.unset).toArray = ls at hl ⊢
  replace hl : lv_has ls 1 [(0, .ref h0)] := hl
  refine lv_aload_n hx hb d_Wa_init_0 rfl (lv_at hl 0 rfl) ?_
  refine W.objInit hx hb hown (ht (.methodLink "NetUnfolder$Way" 3 Lib.objectInit) wd_1_142) (ht (.instanceMethod Lib.objectInit) wd_1_25) (ht (.code Lib.objectInit ⟨#[0xb1]⟩ 1 none) wd_1_26) rfl (by rw [hml]; exact hl.1) rfl d_Wa_init_1 (Nat.le_of_ble_eq_true rfl) (Nat.le_of_ble_eq_true rfl) ?_
  refine W.eq (g2 := F0 m 4 ls []) rfl ?_
  refine lv_aload_n hx hb d_Wa_init_4 rfl (lv_at hl 0 rfl) ?_
  refine lv_bipush (v := 31) hx hb d_Wa_init_5 (by decide) ?_
  refine nx_newaI hx hb (ht _ wd_1_55) hK hP hD hS hA 0 rfl (N' := 31) (by decide) (by decide) (Nat.le_of_ble_eq_true rfl) (Nat.le_of_ble_eq_true rfl) (Nat.le_of_ble_eq_true rfl) d_Wa_init_7 (fun q1 H2 hPn hDn hSn => ?_)
  replace hP : va_P (dC, dI) clA [(h0, .inr (3, [.null, .int 0])), (q1, .inl (cI, 31, .inl (fun _ => 0)))] H2 := hPn
  replace hD : va_D A [(h0, .inr (3, [.null, .int 0])), (q1, .inl (cI, 31, .inl (fun _ => 0)))] := hDn
  replace hS := hSn
  clear hPn hDn hSn
  refine W.cs (cells' := 1) (slots' := 31) rfl rfl ?_
  refine va_putF (D := (dC, dI)) (ci := 3) (v := .ref q1) (ty := .array .int) (C := "NetUnfolder$Way") (T := T_Wa) (N := 2) hx hb ht in_Wa ty_Wa ok_Wa nm_Wa hown hK hP hD hS 0 rfl rfl 0 (by decide) (ht _ wd_1_143) (fun _ h9 => h9) rfl hin rfl (by decide +kernel) rfl rfl (Nat.le_of_ble_eq_true rfl) d_Wa_init_9 (fun H3 locs hPn hDn hSn => ?_)
  replace hP : va_P (dC, dI) clA [(h0, .inr (3, [.ref q1, .int 0])), (q1, .inl (cI, 31, .inl (fun _ => 0)))] H3 := hPn
  replace hD : va_D A [(h0, .inr (3, [.ref q1, .int 0])), (q1, .inl (cI, 31, .inl (fun _ => 0)))] := hDn
  replace hS := hSn
  clear hPn hDn hSn
  refine lv_aload_n hx hb d_Wa_init_12 rfl (lv_at hl 0 rfl) ?_
  refine lv_iconst (v := (-1)) hx hb d_Wa_init_13 (by decide) ?_
  refine va_put (D := (dC, dI)) (ci := 3) (v := .int (-1)) (ty := .int) (C := "NetUnfolder$Way") (T := T_Wa) (N := 2) hx hb ht in_Wa ty_Wa ok_Wa nm_Wa hown hK hP hD hS 0 rfl rfl 1 (by decide) (ht _ wd_1_144) (fun _ h9 => h9) rfl (by decide +kernel) rfl rfl (Nat.le_of_ble_eq_true rfl) d_Wa_init_14 (fun H4 locs hPn hDn hSn => ?_)
  replace hP : va_P (dC, dI) clA [(h0, .inr (3, [.ref q1, .int (-1)])), (q1, .inl (cI, 31, .inl (fun _ => 0)))] H4 := hPn
  replace hD : va_D A [(h0, .inr (3, [.ref q1, .int (-1)])), (q1, .inl (cI, 31, .inl (fun _ => 0)))] := hDn
  replace hS := hSn
  clear hPn hDn hSn
  have hP9 := hP.sub (ws' := [(h0, .inr (3, [.ref q1, .int (-1)])), (q1, .inl (cI, 31, .inl (fun _ => 0)))]) [0, 1] rfl
  have hD9 := hD.sub (ws' := [(h0, .inr (3, [.ref q1, .int (-1)])), (q1, .inl (cI, 31, .inl (fun _ => 0)))]) [0, 1] (by decide) rfl
  exact W.vret hx hb hr (fun t ht9 hW => ⟨⟨(), rfl, trivial, q1, by rw [ht9]; exact hP9, hD9⟩, hS.F ht9⟩) hS.2.2 d_Wa_init_17

set_option maxHeartbeats 4000000 in
set_option maxRecDepth 100000 in
theorem c_Pf_init (l : Launch) (dC : Nat → ClassId) (dI : Nat → Nat → Nat) (cI cL cZ : ClassId) (sz : Nat) (h0 : Nat) : Met l y_Pf_init (Cond.code y_Pf_init prog_5_method_1_code 1 none :: wsA) { frames := 1, cells := 10, slots := 398, locals := 12 } (va_Pc [.ref h0] (fun U => U.heap.size = sz ∧ va_P (dC, dI) clA [(h0, .inr (2, [.int 0, .null, .null, .null, .null, .null, .int 0, .null, .null, .null, .null, .null, .int 0, .int 0]))] U.heap ∧ va_K (dC, dI) clA [(cI, .int), (cL, .long), (cZ, .boolean)] U ∧ va_D (fun _ => True) [(h0, .inr (2, [.int 0, .null, .null, .null, .null, .null, .int 0, .null, .null, .null, .null, .null, .int 0, .int 0]))] ∧ NwA U)) (va_Qv (fun _ : Unit => True) (fun _ t => ∃ q1 q4 q7 q10 q13 q16 q19 q22 q25 q28 : Nat, va_P (dC, dI) clA [(h0, .inr (2, [.int 0, .ref q1, .ref q4, .ref q7, .ref q10, .ref q13, .int 0, .ref q16, .ref q19, .ref q22, .ref q25, .ref q28, .int 0, .int 0])), (q1, .inl (cI, 60, .inl (fun _ => 0))), (q4, .inl (cI, 60, .inl (fun _ => 0))), (q7, .inl (cI, 60, .inl (fun _ => 0))), (q10, .inl (cL, 60, .inr (.inl (fun _ => 0)))), (q13, .inl (cL, 8, .inr (.inl (fun _ => 0)))), (q16, .inl (cI, 30, .inl (fun _ => 0))), (q19, .inl (cL, 30, .inr (.inl (fun _ => 0)))), (q22, .inl (cI, 30, .inl (fun _ => 0))), (q25, .inl (cI, 30, .inl (fun _ => 0))), (q28, .inl (cL, 30, .inr (.inl (fun _ => 0))))] t.heap ∧ va_D (va_A [(h0, .inr (2, [.int 0, .null, .null, .null, .null, .null, .int 0, .null, .null, .null, .null, .null, .int 0, .int 0]))] sz) [(h0, .inr (2, [.int 0, .ref q1, .ref q4, .ref q7, .ref q10, .ref q13, .int 0, .ref q16, .ref q19, .ref q22, .ref q25, .ref q28, .int 0, .int 0])), (q1, .inl (cI, 60, .inl (fun _ => 0))), (q4, .inl (cI, 60, .inl (fun _ => 0))), (q7, .inl (cI, 60, .inl (fun _ => 0))), (q10, .inl (cL, 60, .inr (.inl (fun _ => 0)))), (q13, .inl (cL, 8, .inr (.inl (fun _ => 0)))), (q16, .inl (cI, 30, .inl (fun _ => 0))), (q19, .inl (cL, 30, .inr (.inl (fun _ => 0)))), (q22, .inl (cI, 30, .inl (fun _ => 0))), (q25, .inl (cI, 30, .inl (fun _ => 0))), (q28, .inl (cL, 30, .inr (.inl (fun _ => 0))))]) (va_A [(h0, .inr (2, [.int 0, .null, .null, .null, .null, .null, .int 0, .null, .null, .null, .null, .null, .int 0, .int 0]))] sz)) 10 398 (va_A [(h0, .inr (2, [.int 0, .null, .null, .null, .null, .null, .int 0, .null, .null, .null, .null, .null, .int 0, .int 0]))] sz) := by
  refine Met.ofW (cc := prog_5_method_1_code) (maxL := 1) (ret := none) (by decide) rfl ?_
  intro p e s m args below meth c s₁ B hml hv
  obtain ⟨rfl, hsz, hP, hK, hD0, hN⟩ := hv
  have hx := B.exec
  have hb := B.bytes
  have hr := B.returns
  have ht : ∀ w ∈ wsA, w.before _ s = true := fun w h => atoms_spec (ws := (Cond.code y_Pf_init prog_5_method_1_code 1 none :: wsA)) B.pre w (List.mem_cons_of_mem _ h)
  have hown : s.vm.findClass "NetUnfolder$Prefix" = some m.cls := findClass_of_methodNamed B.named
  have hlocks := B.notSynchronized
  have hin : meth.name = "<init>" := (name_of_methodNamed B.named B.method).1
  subst hsz
  have hD := hD0.self (sz := s.heap.size)
  generalize hAe : va_A [(h0, .inr (2, [.int 0, .null, .null, .null, .null, .null, .int 0, .null, .null, .null, .null, .null, .int 0, .int 0]))] s.heap.size = A at hD ⊢
  have hA : ∀ q : Nat, s.heap.size ≤ q → A q := fun q h => by rw [← hAe]; exact Or.inr h
  have hS : va_S A s.heap s.heap [] := va_S.rf
  have hl := lv_entry ([.ref h0]) (n := 1) (Nat.le_of_ble_eq_true rfl)
  rw [lg_entry_eq]
  generalize (lg_sl ([.ref h0]) ++ List.replicate (1 - (lg_sl ([.ref h0])).length) Slot.unset).toArray = ls at hl ⊢
  replace hl : lv_has ls 1 [(0, .ref h0)] := hl
  refine lv_aload_n hx hb d_Pf_init_0 rfl (lv_at hl 0 rfl) ?_
  refine W.objInit hx hb hown (ht (.methodLink "NetUnfolder$Prefix" 3 Lib.objectInit) wd_1_61) (ht (.instanceMethod Lib.objectInit) wd_1_25) (ht (.code Lib.objectInit ⟨#[0xb1]⟩ 1 none) wd_1_26) rfl (by rw [hml]; exact hl.1) rfl d_Pf_init_1 (Nat.le_of_ble_eq_true rfl) (Nat.le_of_ble_eq_true rfl) ?_
  refine W.eq (g2 := F0 m 4 ls []) rfl ?_
  refine lv_aload_n hx hb d_Pf_init_4 rfl (lv_at hl 0 rfl) ?_
  refine lv_bipush (v := 60) hx hb d_Pf_init_5 (by decide) ?_
  refine nx_newaI hx hb (ht _ wd_1_55) hK hP hD hS hA 0 rfl (N' := 60) (by decide) (by decide) (Nat.le_of_ble_eq_true rfl) (Nat.le_of_ble_eq_true rfl) (Nat.le_of_ble_eq_true rfl) d_Pf_init_7 (fun q1 H2 hPn hDn hSn => ?_)
  replace hP : va_P (dC, dI) clA [(h0, .inr (2, [.int 0, .null, .null, .null, .null, .null, .int 0, .null, .null, .null, .null, .null, .int 0, .int 0])), (q1, .inl (cI, 60, .inl (fun _ => 0)))] H2 := hPn
  replace hD : va_D A [(h0, .inr (2, [.int 0, .null, .null, .null, .null, .null, .int 0, .null, .null, .null, .null, .null, .int 0, .int 0])), (q1, .inl (cI, 60, .inl (fun _ => 0)))] := hDn
  replace hS := hSn
  clear hPn hDn hSn
  refine W.cs (cells' := 1) (slots' := 60) rfl rfl ?_
  refine va_putF (D := (dC, dI)) (ci := 2) (v := .ref q1) (ty := .array .int) (C := "NetUnfolder$Prefix") (T := T_Pf) (N := 14) hx hb ht in_Pf ty_Pf ok_Pf nm_Pf hown hK hP hD hS 0 rfl rfl 1 (by decide) (ht _ wd_1_66) (fun _ h9 => h9) rfl hin rfl (by decide +kernel) rfl rfl (Nat.le_of_ble_eq_true rfl) d_Pf_init_9 (fun H3 locs hPn hDn hSn => ?_)
  replace hP : va_P (dC, dI) clA [(h0, .inr (2, [.int 0, .ref q1, .null, .null, .null, .null, .int 0, .null, .null, .null, .null, .null, .int 0, .int 0])), (q1, .inl (cI, 60, .inl (fun _ => 0)))] H3 := hPn
  replace hD : va_D A [(h0, .inr (2, [.int 0, .ref q1, .null, .null, .null, .null, .int 0, .null, .null, .null, .null, .null, .int 0, .int 0])), (q1, .inl (cI, 60, .inl (fun _ => 0)))] := hDn
  replace hS := hSn
  clear hPn hDn hSn
  refine lv_aload_n hx hb d_Pf_init_12 rfl (lv_at hl 0 rfl) ?_
  refine lv_bipush (v := 60) hx hb d_Pf_init_13 (by decide) ?_
  refine nx_newaI hx hb (ht _ wd_1_55) hK hP hD hS hA 0 rfl (N' := 60) (by decide) (by decide) (Nat.le_of_ble_eq_true rfl) (Nat.le_of_ble_eq_true rfl) (Nat.le_of_ble_eq_true rfl) d_Pf_init_15 (fun q4 H5 hPn hDn hSn => ?_)
  replace hP : va_P (dC, dI) clA [(h0, .inr (2, [.int 0, .ref q1, .null, .null, .null, .null, .int 0, .null, .null, .null, .null, .null, .int 0, .int 0])), (q1, .inl (cI, 60, .inl (fun _ => 0))), (q4, .inl (cI, 60, .inl (fun _ => 0)))] H5 := hPn
  replace hD : va_D A [(h0, .inr (2, [.int 0, .ref q1, .null, .null, .null, .null, .int 0, .null, .null, .null, .null, .null, .int 0, .int 0])), (q1, .inl (cI, 60, .inl (fun _ => 0))), (q4, .inl (cI, 60, .inl (fun _ => 0)))] := hDn
  replace hS := hSn
  clear hPn hDn hSn
  refine W.cs (cells' := 2) (slots' := 120) rfl rfl ?_
  refine va_putF (D := (dC, dI)) (ci := 2) (v := .ref q4) (ty := .array .int) (C := "NetUnfolder$Prefix") (T := T_Pf) (N := 14) hx hb ht in_Pf ty_Pf ok_Pf nm_Pf hown hK hP hD hS 0 rfl rfl 2 (by decide) (ht _ wd_1_70) (fun _ h9 => h9) rfl hin rfl (by decide +kernel) rfl rfl (Nat.le_of_ble_eq_true rfl) d_Pf_init_17 (fun H6 locs hPn hDn hSn => ?_)
  replace hP : va_P (dC, dI) clA [(h0, .inr (2, [.int 0, .ref q1, .ref q4, .null, .null, .null, .int 0, .null, .null, .null, .null, .null, .int 0, .int 0])), (q1, .inl (cI, 60, .inl (fun _ => 0))), (q4, .inl (cI, 60, .inl (fun _ => 0)))] H6 := hPn
  replace hD : va_D A [(h0, .inr (2, [.int 0, .ref q1, .ref q4, .null, .null, .null, .int 0, .null, .null, .null, .null, .null, .int 0, .int 0])), (q1, .inl (cI, 60, .inl (fun _ => 0))), (q4, .inl (cI, 60, .inl (fun _ => 0)))] := hDn
  replace hS := hSn
  clear hPn hDn hSn
  refine lv_aload_n hx hb d_Pf_init_20 rfl (lv_at hl 0 rfl) ?_
  refine lv_bipush (v := 60) hx hb d_Pf_init_21 (by decide) ?_
  refine nx_newaI hx hb (ht _ wd_1_55) hK hP hD hS hA 0 rfl (N' := 60) (by decide) (by decide) (Nat.le_of_ble_eq_true rfl) (Nat.le_of_ble_eq_true rfl) (Nat.le_of_ble_eq_true rfl) d_Pf_init_23 (fun q7 H8 hPn hDn hSn => ?_)
  replace hP : va_P (dC, dI) clA [(h0, .inr (2, [.int 0, .ref q1, .ref q4, .null, .null, .null, .int 0, .null, .null, .null, .null, .null, .int 0, .int 0])), (q1, .inl (cI, 60, .inl (fun _ => 0))), (q4, .inl (cI, 60, .inl (fun _ => 0))), (q7, .inl (cI, 60, .inl (fun _ => 0)))] H8 := hPn
  replace hD : va_D A [(h0, .inr (2, [.int 0, .ref q1, .ref q4, .null, .null, .null, .int 0, .null, .null, .null, .null, .null, .int 0, .int 0])), (q1, .inl (cI, 60, .inl (fun _ => 0))), (q4, .inl (cI, 60, .inl (fun _ => 0))), (q7, .inl (cI, 60, .inl (fun _ => 0)))] := hDn
  replace hS := hSn
  clear hPn hDn hSn
  refine W.cs (cells' := 3) (slots' := 180) rfl rfl ?_
  refine va_putF (D := (dC, dI)) (ci := 2) (v := .ref q7) (ty := .array .int) (C := "NetUnfolder$Prefix") (T := T_Pf) (N := 14) hx hb ht in_Pf ty_Pf ok_Pf nm_Pf hown hK hP hD hS 0 rfl rfl 3 (by decide) (ht _ wd_1_73) (fun _ h9 => h9) rfl hin rfl (by decide +kernel) rfl rfl (Nat.le_of_ble_eq_true rfl) d_Pf_init_25 (fun H9 locs hPn hDn hSn => ?_)
  replace hP : va_P (dC, dI) clA [(h0, .inr (2, [.int 0, .ref q1, .ref q4, .ref q7, .null, .null, .int 0, .null, .null, .null, .null, .null, .int 0, .int 0])), (q1, .inl (cI, 60, .inl (fun _ => 0))), (q4, .inl (cI, 60, .inl (fun _ => 0))), (q7, .inl (cI, 60, .inl (fun _ => 0)))] H9 := hPn
  replace hD : va_D A [(h0, .inr (2, [.int 0, .ref q1, .ref q4, .ref q7, .null, .null, .int 0, .null, .null, .null, .null, .null, .int 0, .int 0])), (q1, .inl (cI, 60, .inl (fun _ => 0))), (q4, .inl (cI, 60, .inl (fun _ => 0))), (q7, .inl (cI, 60, .inl (fun _ => 0)))] := hDn
  replace hS := hSn
  clear hPn hDn hSn
  refine lv_aload_n hx hb d_Pf_init_28 rfl (lv_at hl 0 rfl) ?_
  refine lv_bipush (v := 60) hx hb d_Pf_init_29 (by decide) ?_
  refine nx_newaJ hx hb (ht _ wd_1_136) hK hP hD hS hA 1 rfl (N' := 60) (by decide) (by decide) (Nat.le_of_ble_eq_true rfl) (Nat.le_of_ble_eq_true rfl) (Nat.le_of_ble_eq_true rfl) d_Pf_init_31 (fun q10 H11 hPn hDn hSn => ?_)
  replace hP : va_P (dC, dI) clA [(h0, .inr (2, [.int 0, .ref q1, .ref q4, .ref q7, .null, .null, .int 0, .null, .null, .null, .null, .null, .int 0, .int 0])), (q1, .inl (cI, 60, .inl (fun _ => 0))), (q4, .inl (cI, 60, .inl (fun _ => 0))), (q7, .inl (cI, 60, .inl (fun _ => 0))), (q10, .inl (cL, 60, .inr (.inl (fun _ => 0))))] H11 := hPn
  replace hD : va_D A [(h0, .inr (2, [.int 0, .ref q1, .ref q4, .ref q7, .null, .null, .int 0, .null, .null, .null, .null, .null, .int 0, .int 0])), (q1, .inl (cI, 60, .inl (fun _ => 0))), (q4, .inl (cI, 60, .inl (fun _ => 0))), (q7, .inl (cI, 60, .inl (fun _ => 0))), (q10, .inl (cL, 60, .inr (.inl (fun _ => 0))))] := hDn
  replace hS := hSn
  clear hPn hDn hSn
  refine W.cs (cells' := 4) (slots' := 240) rfl rfl ?_
  refine va_putF (D := (dC, dI)) (ci := 2) (v := .ref q10) (ty := .array .long) (C := "NetUnfolder$Prefix") (T := T_Pf) (N := 14) hx hb ht in_Pf ty_Pf ok_Pf nm_Pf hown hK hP hD hS 0 rfl rfl 4 (by decide) (ht _ wd_1_76) (fun _ h9 => h9) rfl hin rfl (by decide +kernel) rfl rfl (Nat.le_of_ble_eq_true rfl) d_Pf_init_33 (fun H12 locs hPn hDn hSn => ?_)
  replace hP : va_P (dC, dI) clA [(h0, .inr (2, [.int 0, .ref q1, .ref q4, .ref q7, .ref q10, .null, .int 0, .null, .null, .null, .null, .null, .int 0, .int 0])), (q1, .inl (cI, 60, .inl (fun _ => 0))), (q4, .inl (cI, 60, .inl (fun _ => 0))), (q7, .inl (cI, 60, .inl (fun _ => 0))), (q10, .inl (cL, 60, .inr (.inl (fun _ => 0))))] H12 := hPn
  replace hD : va_D A [(h0, .inr (2, [.int 0, .ref q1, .ref q4, .ref q7, .ref q10, .null, .int 0, .null, .null, .null, .null, .null, .int 0, .int 0])), (q1, .inl (cI, 60, .inl (fun _ => 0))), (q4, .inl (cI, 60, .inl (fun _ => 0))), (q7, .inl (cI, 60, .inl (fun _ => 0))), (q10, .inl (cL, 60, .inr (.inl (fun _ => 0))))] := hDn
  replace hS := hSn
  clear hPn hDn hSn
  refine lv_aload_n hx hb d_Pf_init_36 rfl (lv_at hl 0 rfl) ?_
  refine lv_bipush (v := 8) hx hb d_Pf_init_37 (by decide) ?_
  refine nx_newaJ hx hb (ht _ wd_1_136) hK hP hD hS hA 1 rfl (N' := 8) (by decide) (by decide) (Nat.le_of_ble_eq_true rfl) (Nat.le_of_ble_eq_true rfl) (Nat.le_of_ble_eq_true rfl) d_Pf_init_39 (fun q13 H14 hPn hDn hSn => ?_)
  replace hP : va_P (dC, dI) clA [(h0, .inr (2, [.int 0, .ref q1, .ref q4, .ref q7, .ref q10, .null, .int 0, .null, .null, .null, .null, .null, .int 0, .int 0])), (q1, .inl (cI, 60, .inl (fun _ => 0))), (q4, .inl (cI, 60, .inl (fun _ => 0))), (q7, .inl (cI, 60, .inl (fun _ => 0))), (q10, .inl (cL, 60, .inr (.inl (fun _ => 0)))), (q13, .inl (cL, 8, .inr (.inl (fun _ => 0))))] H14 := hPn
  replace hD : va_D A [(h0, .inr (2, [.int 0, .ref q1, .ref q4, .ref q7, .ref q10, .null, .int 0, .null, .null, .null, .null, .null, .int 0, .int 0])), (q1, .inl (cI, 60, .inl (fun _ => 0))), (q4, .inl (cI, 60, .inl (fun _ => 0))), (q7, .inl (cI, 60, .inl (fun _ => 0))), (q10, .inl (cL, 60, .inr (.inl (fun _ => 0)))), (q13, .inl (cL, 8, .inr (.inl (fun _ => 0))))] := hDn
  replace hS := hSn
  clear hPn hDn hSn
  refine W.cs (cells' := 5) (slots' := 248) rfl rfl ?_
  refine va_putF (D := (dC, dI)) (ci := 2) (v := .ref q13) (ty := .array .long) (C := "NetUnfolder$Prefix") (T := T_Pf) (N := 14) hx hb ht in_Pf ty_Pf ok_Pf nm_Pf hown hK hP hD hS 0 rfl rfl 5 (by decide) (ht _ wd_1_79) (fun _ h9 => h9) rfl hin rfl (by decide +kernel) rfl rfl (Nat.le_of_ble_eq_true rfl) d_Pf_init_41 (fun H15 locs hPn hDn hSn => ?_)
  replace hP : va_P (dC, dI) clA [(h0, .inr (2, [.int 0, .ref q1, .ref q4, .ref q7, .ref q10, .ref q13, .int 0, .null, .null, .null, .null, .null, .int 0, .int 0])), (q1, .inl (cI, 60, .inl (fun _ => 0))), (q4, .inl (cI, 60, .inl (fun _ => 0))), (q7, .inl (cI, 60, .inl (fun _ => 0))), (q10, .inl (cL, 60, .inr (.inl (fun _ => 0)))), (q13, .inl (cL, 8, .inr (.inl (fun _ => 0))))] H15 := hPn
  replace hD : va_D A [(h0, .inr (2, [.int 0, .ref q1, .ref q4, .ref q7, .ref q10, .ref q13, .int 0, .null, .null, .null, .null, .null, .int 0, .int 0])), (q1, .inl (cI, 60, .inl (fun _ => 0))), (q4, .inl (cI, 60, .inl (fun _ => 0))), (q7, .inl (cI, 60, .inl (fun _ => 0))), (q10, .inl (cL, 60, .inr (.inl (fun _ => 0)))), (q13, .inl (cL, 8, .inr (.inl (fun _ => 0))))] := hDn
  replace hS := hSn
  clear hPn hDn hSn
  refine lv_aload_n hx hb d_Pf_init_44 rfl (lv_at hl 0 rfl) ?_
  refine lv_bipush (v := 30) hx hb d_Pf_init_45 (by decide) ?_
  refine nx_newaI hx hb (ht _ wd_1_55) hK hP hD hS hA 0 rfl (N' := 30) (by decide) (by decide) (Nat.le_of_ble_eq_true rfl) (Nat.le_of_ble_eq_true rfl) (Nat.le_of_ble_eq_true rfl) d_Pf_init_47 (fun q16 H17 hPn hDn hSn => ?_)
  replace hP : va_P (dC, dI) clA [(h0, .inr (2, [.int 0, .ref q1, .ref q4, .ref q7, .ref q10, .ref q13, .int 0, .null, .null, .null, .null, .null, .int 0, .int 0])), (q1, .inl (cI, 60, .inl (fun _ => 0))), (q4, .inl (cI, 60, .inl (fun _ => 0))), (q7, .inl (cI, 60, .inl (fun _ => 0))), (q10, .inl (cL, 60, .inr (.inl (fun _ => 0)))), (q13, .inl (cL, 8, .inr (.inl (fun _ => 0)))), (q16, .inl (cI, 30, .inl (fun _ => 0)))] H17 := hPn
  replace hD : va_D A [(h0, .inr (2, [.int 0, .ref q1, .ref q4, .ref q7, .ref q10, .ref q13, .int 0, .null, .null, .null, .null, .null, .int 0, .int 0])), (q1, .inl (cI, 60, .inl (fun _ => 0))), (q4, .inl (cI, 60, .inl (fun _ => 0))), (q7, .inl (cI, 60, .inl (fun _ => 0))), (q10, .inl (cL, 60, .inr (.inl (fun _ => 0)))), (q13, .inl (cL, 8, .inr (.inl (fun _ => 0)))), (q16, .inl (cI, 30, .inl (fun _ => 0)))] := hDn
  replace hS := hSn
  clear hPn hDn hSn
  refine W.cs (cells' := 6) (slots' := 278) rfl rfl ?_
  refine va_putF (D := (dC, dI)) (ci := 2) (v := .ref q16) (ty := .array .int) (C := "NetUnfolder$Prefix") (T := T_Pf) (N := 14) hx hb ht in_Pf ty_Pf ok_Pf nm_Pf hown hK hP hD hS 0 rfl rfl 7 (by decide) (ht _ wd_1_86) (fun _ h9 => h9) rfl hin rfl (by decide +kernel) rfl rfl (Nat.le_of_ble_eq_true rfl) d_Pf_init_49 (fun H18 locs hPn hDn hSn => ?_)
  replace hP : va_P (dC, dI) clA [(h0, .inr (2, [.int 0, .ref q1, .ref q4, .ref q7, .ref q10, .ref q13, .int 0, .ref q16, .null, .null, .null, .null, .int 0, .int 0])), (q1, .inl (cI, 60, .inl (fun _ => 0))), (q4, .inl (cI, 60, .inl (fun _ => 0))), (q7, .inl (cI, 60, .inl (fun _ => 0))), (q10, .inl (cL, 60, .inr (.inl (fun _ => 0)))), (q13, .inl (cL, 8, .inr (.inl (fun _ => 0)))), (q16, .inl (cI, 30, .inl (fun _ => 0)))] H18 := hPn
  replace hD : va_D A [(h0, .inr (2, [.int 0, .ref q1, .ref q4, .ref q7, .ref q10, .ref q13, .int 0, .ref q16, .null, .null, .null, .null, .int 0, .int 0])), (q1, .inl (cI, 60, .inl (fun _ => 0))), (q4, .inl (cI, 60, .inl (fun _ => 0))), (q7, .inl (cI, 60, .inl (fun _ => 0))), (q10, .inl (cL, 60, .inr (.inl (fun _ => 0)))), (q13, .inl (cL, 8, .inr (.inl (fun _ => 0)))), (q16, .inl (cI, 30, .inl (fun _ => 0)))] := hDn
  replace hS := hSn
  clear hPn hDn hSn
  refine lv_aload_n hx hb d_Pf_init_52 rfl (lv_at hl 0 rfl) ?_
  refine lv_bipush (v := 30) hx hb d_Pf_init_53 (by decide) ?_
  refine nx_newaJ hx hb (ht _ wd_1_136) hK hP hD hS hA 1 rfl (N' := 30) (by decide) (by decide) (Nat.le_of_ble_eq_true rfl) (Nat.le_of_ble_eq_true rfl) (Nat.le_of_ble_eq_true rfl) d_Pf_init_55 (fun q19 H20 hPn hDn hSn => ?_)
  replace hP : va_P (dC, dI) clA [(h0, .inr (2, [.int 0, .ref q1, .ref q4, .ref q7, .ref q10, .ref q13, .int 0, .ref q16, .null, .null, .null, .null, .int 0, .int 0])), (q1, .inl (cI, 60, .inl (fun _ => 0))), (q4, .inl (cI, 60, .inl (fun _ => 0))), (q7, .inl (cI, 60, .inl (fun _ => 0))), (q10, .inl (cL, 60, .inr (.inl (fun _ => 0)))), (q13, .inl (cL, 8, .inr (.inl (fun _ => 0)))), (q16, .inl (cI, 30, .inl (fun _ => 0))), (q19, .inl (cL, 30, .inr (.inl (fun _ => 0))))] H20 := hPn
  replace hD : va_D A [(h0, .inr (2, [.int 0, .ref q1, .ref q4, .ref q7, .ref q10, .ref q13, .int 0, .ref q16, .null, .null, .null, .null, .int 0, .int 0])), (q1, .inl (cI, 60, .inl (fun _ => 0))), (q4, .inl (cI, 60, .inl (fun _ => 0))), (q7, .inl (cI, 60, .inl (fun _ => 0))), (q10, .inl (cL, 60, .inr (.inl (fun _ => 0)))), (q13, .inl (cL, 8, .inr (.inl (fun _ => 0)))), (q16, .inl (cI, 30, .inl (fun _ => 0))), (q19, .inl (cL, 30, .inr (.inl (fun _ => 0))))] := hDn
  replace hS := hSn
  clear hPn hDn hSn
  refine W.cs (cells' := 7) (slots' := 308) rfl rfl ?_
  refine va_putF (D := (dC, dI)) (ci := 2) (v := .ref q19) (ty := .array .long) (C := "NetUnfolder$Prefix") (T := T_Pf) (N := 14) hx hb ht in_Pf ty_Pf ok_Pf nm_Pf hown hK hP hD hS 0 rfl rfl 8 (by decide) (ht _ wd_1_90) (fun _ h9 => h9) rfl hin rfl (by decide +kernel) rfl rfl (Nat.le_of_ble_eq_true rfl) d_Pf_init_57 (fun H21 locs hPn hDn hSn => ?_)
  replace hP : va_P (dC, dI) clA [(h0, .inr (2, [.int 0, .ref q1, .ref q4, .ref q7, .ref q10, .ref q13, .int 0, .ref q16, .ref q19, .null, .null, .null, .int 0, .int 0])), (q1, .inl (cI, 60, .inl (fun _ => 0))), (q4, .inl (cI, 60, .inl (fun _ => 0))), (q7, .inl (cI, 60, .inl (fun _ => 0))), (q10, .inl (cL, 60, .inr (.inl (fun _ => 0)))), (q13, .inl (cL, 8, .inr (.inl (fun _ => 0)))), (q16, .inl (cI, 30, .inl (fun _ => 0))), (q19, .inl (cL, 30, .inr (.inl (fun _ => 0))))] H21 := hPn
  replace hD : va_D A [(h0, .inr (2, [.int 0, .ref q1, .ref q4, .ref q7, .ref q10, .ref q13, .int 0, .ref q16, .ref q19, .null, .null, .null, .int 0, .int 0])), (q1, .inl (cI, 60, .inl (fun _ => 0))), (q4, .inl (cI, 60, .inl (fun _ => 0))), (q7, .inl (cI, 60, .inl (fun _ => 0))), (q10, .inl (cL, 60, .inr (.inl (fun _ => 0)))), (q13, .inl (cL, 8, .inr (.inl (fun _ => 0)))), (q16, .inl (cI, 30, .inl (fun _ => 0))), (q19, .inl (cL, 30, .inr (.inl (fun _ => 0))))] := hDn
  replace hS := hSn
  clear hPn hDn hSn
  refine lv_aload_n hx hb d_Pf_init_60 rfl (lv_at hl 0 rfl) ?_
  refine lv_bipush (v := 30) hx hb d_Pf_init_61 (by decide) ?_
  refine nx_newaI hx hb (ht _ wd_1_55) hK hP hD hS hA 0 rfl (N' := 30) (by decide) (by decide) (Nat.le_of_ble_eq_true rfl) (Nat.le_of_ble_eq_true rfl) (Nat.le_of_ble_eq_true rfl) d_Pf_init_63 (fun q22 H23 hPn hDn hSn => ?_)
  replace hP : va_P (dC, dI) clA [(h0, .inr (2, [.int 0, .ref q1, .ref q4, .ref q7, .ref q10, .ref q13, .int 0, .ref q16, .ref q19, .null, .null, .null, .int 0, .int 0])), (q1, .inl (cI, 60, .inl (fun _ => 0))), (q4, .inl (cI, 60, .inl (fun _ => 0))), (q7, .inl (cI, 60, .inl (fun _ => 0))), (q10, .inl (cL, 60, .inr (.inl (fun _ => 0)))), (q13, .inl (cL, 8, .inr (.inl (fun _ => 0)))), (q16, .inl (cI, 30, .inl (fun _ => 0))), (q19, .inl (cL, 30, .inr (.inl (fun _ => 0)))), (q22, .inl (cI, 30, .inl (fun _ => 0)))] H23 := hPn
  replace hD : va_D A [(h0, .inr (2, [.int 0, .ref q1, .ref q4, .ref q7, .ref q10, .ref q13, .int 0, .ref q16, .ref q19, .null, .null, .null, .int 0, .int 0])), (q1, .inl (cI, 60, .inl (fun _ => 0))), (q4, .inl (cI, 60, .inl (fun _ => 0))), (q7, .inl (cI, 60, .inl (fun _ => 0))), (q10, .inl (cL, 60, .inr (.inl (fun _ => 0)))), (q13, .inl (cL, 8, .inr (.inl (fun _ => 0)))), (q16, .inl (cI, 30, .inl (fun _ => 0))), (q19, .inl (cL, 30, .inr (.inl (fun _ => 0)))), (q22, .inl (cI, 30, .inl (fun _ => 0)))] := hDn
  replace hS := hSn
  clear hPn hDn hSn
  refine W.cs (cells' := 8) (slots' := 338) rfl rfl ?_
  refine va_putF (D := (dC, dI)) (ci := 2) (v := .ref q22) (ty := .array .int) (C := "NetUnfolder$Prefix") (T := T_Pf) (N := 14) hx hb ht in_Pf ty_Pf ok_Pf nm_Pf hown hK hP hD hS 0 rfl rfl 9 (by decide) (ht _ wd_1_92) (fun _ h9 => h9) rfl hin rfl (by decide +kernel) rfl rfl (Nat.le_of_ble_eq_true rfl) d_Pf_init_65 (fun H24 locs hPn hDn hSn => ?_)
  replace hP : va_P (dC, dI) clA [(h0, .inr (2, [.int 0, .ref q1, .ref q4, .ref q7, .ref q10, .ref q13, .int 0, .ref q16, .ref q19, .ref q22, .null, .null, .int 0, .int 0])), (q1, .inl (cI, 60, .inl (fun _ => 0))), (q4, .inl (cI, 60, .inl (fun _ => 0))), (q7, .inl (cI, 60, .inl (fun _ => 0))), (q10, .inl (cL, 60, .inr (.inl (fun _ => 0)))), (q13, .inl (cL, 8, .inr (.inl (fun _ => 0)))), (q16, .inl (cI, 30, .inl (fun _ => 0))), (q19, .inl (cL, 30, .inr (.inl (fun _ => 0)))), (q22, .inl (cI, 30, .inl (fun _ => 0)))] H24 := hPn
  replace hD : va_D A [(h0, .inr (2, [.int 0, .ref q1, .ref q4, .ref q7, .ref q10, .ref q13, .int 0, .ref q16, .ref q19, .ref q22, .null, .null, .int 0, .int 0])), (q1, .inl (cI, 60, .inl (fun _ => 0))), (q4, .inl (cI, 60, .inl (fun _ => 0))), (q7, .inl (cI, 60, .inl (fun _ => 0))), (q10, .inl (cL, 60, .inr (.inl (fun _ => 0)))), (q13, .inl (cL, 8, .inr (.inl (fun _ => 0)))), (q16, .inl (cI, 30, .inl (fun _ => 0))), (q19, .inl (cL, 30, .inr (.inl (fun _ => 0)))), (q22, .inl (cI, 30, .inl (fun _ => 0)))] := hDn
  replace hS := hSn
  clear hPn hDn hSn
  refine lv_aload_n hx hb d_Pf_init_68 rfl (lv_at hl 0 rfl) ?_
  refine lv_bipush (v := 30) hx hb d_Pf_init_69 (by decide) ?_
  refine nx_newaI hx hb (ht _ wd_1_55) hK hP hD hS hA 0 rfl (N' := 30) (by decide) (by decide) (Nat.le_of_ble_eq_true rfl) (Nat.le_of_ble_eq_true rfl) (Nat.le_of_ble_eq_true rfl) d_Pf_init_71 (fun q25 H26 hPn hDn hSn => ?_)
  replace hP : va_P (dC, dI) clA [(h0, .inr (2, [.int 0, .ref q1, .ref q4, .ref q7, .ref q10, .ref q13, .int 0, .ref q16, .ref q19, .ref q22, .null, .null, .int 0, .int 0])), (q1, .inl (cI, 60, .inl (fun _ => 0))), (q4, .inl (cI, 60, .inl (fun _ => 0))), (q7, .inl (cI, 60, .inl (fun _ => 0))), (q10, .inl (cL, 60, .inr (.inl (fun _ => 0)))), (q13, .inl (cL, 8, .inr (.inl (fun _ => 0)))), (q16, .inl (cI, 30, .inl (fun _ => 0))), (q19, .inl (cL, 30, .inr (.inl (fun _ => 0)))), (q22, .inl (cI, 30, .inl (fun _ => 0))), (q25, .inl (cI, 30, .inl (fun _ => 0)))] H26 := hPn
  replace hD : va_D A [(h0, .inr (2, [.int 0, .ref q1, .ref q4, .ref q7, .ref q10, .ref q13, .int 0, .ref q16, .ref q19, .ref q22, .null, .null, .int 0, .int 0])), (q1, .inl (cI, 60, .inl (fun _ => 0))), (q4, .inl (cI, 60, .inl (fun _ => 0))), (q7, .inl (cI, 60, .inl (fun _ => 0))), (q10, .inl (cL, 60, .inr (.inl (fun _ => 0)))), (q13, .inl (cL, 8, .inr (.inl (fun _ => 0)))), (q16, .inl (cI, 30, .inl (fun _ => 0))), (q19, .inl (cL, 30, .inr (.inl (fun _ => 0)))), (q22, .inl (cI, 30, .inl (fun _ => 0))), (q25, .inl (cI, 30, .inl (fun _ => 0)))] := hDn
  replace hS := hSn
  clear hPn hDn hSn
  refine W.cs (cells' := 9) (slots' := 368) rfl rfl ?_
  refine va_putF (D := (dC, dI)) (ci := 2) (v := .ref q25) (ty := .array .int) (C := "NetUnfolder$Prefix") (T := T_Pf) (N := 14) hx hb ht in_Pf ty_Pf ok_Pf nm_Pf hown hK hP hD hS 0 rfl rfl 10 (by decide) (ht _ wd_1_95) (fun _ h9 => h9) rfl hin rfl (by decide +kernel) rfl rfl (Nat.le_of_ble_eq_true rfl) d_Pf_init_73 (fun H27 locs hPn hDn hSn => ?_)
  replace hP : va_P (dC, dI) clA [(h0, .inr (2, [.int 0, .ref q1, .ref q4, .ref q7, .ref q10, .ref q13, .int 0, .ref q16, .ref q19, .ref q22, .ref q25, .null, .int 0, .int 0])), (q1, .inl (cI, 60, .inl (fun _ => 0))), (q4, .inl (cI, 60, .inl (fun _ => 0))), (q7, .inl (cI, 60, .inl (fun _ => 0))), (q10, .inl (cL, 60, .inr (.inl (fun _ => 0)))), (q13, .inl (cL, 8, .inr (.inl (fun _ => 0)))), (q16, .inl (cI, 30, .inl (fun _ => 0))), (q19, .inl (cL, 30, .inr (.inl (fun _ => 0)))), (q22, .inl (cI, 30, .inl (fun _ => 0))), (q25, .inl (cI, 30, .inl (fun _ => 0)))] H27 := hPn
  replace hD : va_D A [(h0, .inr (2, [.int 0, .ref q1, .ref q4, .ref q7, .ref q10, .ref q13, .int 0, .ref q16, .ref q19, .ref q22, .ref q25, .null, .int 0, .int 0])), (q1, .inl (cI, 60, .inl (fun _ => 0))), (q4, .inl (cI, 60, .inl (fun _ => 0))), (q7, .inl (cI, 60, .inl (fun _ => 0))), (q10, .inl (cL, 60, .inr (.inl (fun _ => 0)))), (q13, .inl (cL, 8, .inr (.inl (fun _ => 0)))), (q16, .inl (cI, 30, .inl (fun _ => 0))), (q19, .inl (cL, 30, .inr (.inl (fun _ => 0)))), (q22, .inl (cI, 30, .inl (fun _ => 0))), (q25, .inl (cI, 30, .inl (fun _ => 0)))] := hDn
  replace hS := hSn
  clear hPn hDn hSn
  refine lv_aload_n hx hb d_Pf_init_76 rfl (lv_at hl 0 rfl) ?_
  refine lv_bipush (v := 30) hx hb d_Pf_init_77 (by decide) ?_
  refine nx_newaJ hx hb (ht _ wd_1_136) hK hP hD hS hA 1 rfl (N' := 30) (by decide) (by decide) (Nat.le_of_ble_eq_true rfl) (Nat.le_of_ble_eq_true rfl) (Nat.le_of_ble_eq_true rfl) d_Pf_init_79 (fun q28 H29 hPn hDn hSn => ?_)
  replace hP : va_P (dC, dI) clA [(h0, .inr (2, [.int 0, .ref q1, .ref q4, .ref q7, .ref q10, .ref q13, .int 0, .ref q16, .ref q19, .ref q22, .ref q25, .null, .int 0, .int 0])), (q1, .inl (cI, 60, .inl (fun _ => 0))), (q4, .inl (cI, 60, .inl (fun _ => 0))), (q7, .inl (cI, 60, .inl (fun _ => 0))), (q10, .inl (cL, 60, .inr (.inl (fun _ => 0)))), (q13, .inl (cL, 8, .inr (.inl (fun _ => 0)))), (q16, .inl (cI, 30, .inl (fun _ => 0))), (q19, .inl (cL, 30, .inr (.inl (fun _ => 0)))), (q22, .inl (cI, 30, .inl (fun _ => 0))), (q25, .inl (cI, 30, .inl (fun _ => 0))), (q28, .inl (cL, 30, .inr (.inl (fun _ => 0))))] H29 := hPn
  replace hD : va_D A [(h0, .inr (2, [.int 0, .ref q1, .ref q4, .ref q7, .ref q10, .ref q13, .int 0, .ref q16, .ref q19, .ref q22, .ref q25, .null, .int 0, .int 0])), (q1, .inl (cI, 60, .inl (fun _ => 0))), (q4, .inl (cI, 60, .inl (fun _ => 0))), (q7, .inl (cI, 60, .inl (fun _ => 0))), (q10, .inl (cL, 60, .inr (.inl (fun _ => 0)))), (q13, .inl (cL, 8, .inr (.inl (fun _ => 0)))), (q16, .inl (cI, 30, .inl (fun _ => 0))), (q19, .inl (cL, 30, .inr (.inl (fun _ => 0)))), (q22, .inl (cI, 30, .inl (fun _ => 0))), (q25, .inl (cI, 30, .inl (fun _ => 0))), (q28, .inl (cL, 30, .inr (.inl (fun _ => 0))))] := hDn
  replace hS := hSn
  clear hPn hDn hSn
  refine W.cs (cells' := 10) (slots' := 398) rfl rfl ?_
  refine va_putF (D := (dC, dI)) (ci := 2) (v := .ref q28) (ty := .array .long) (C := "NetUnfolder$Prefix") (T := T_Pf) (N := 14) hx hb ht in_Pf ty_Pf ok_Pf nm_Pf hown hK hP hD hS 0 rfl rfl 11 (by decide) (ht _ wd_1_98) (fun _ h9 => h9) rfl hin rfl (by decide +kernel) rfl rfl (Nat.le_of_ble_eq_true rfl) d_Pf_init_81 (fun H30 locs hPn hDn hSn => ?_)
  replace hP : va_P (dC, dI) clA [(h0, .inr (2, [.int 0, .ref q1, .ref q4, .ref q7, .ref q10, .ref q13, .int 0, .ref q16, .ref q19, .ref q22, .ref q25, .ref q28, .int 0, .int 0])), (q1, .inl (cI, 60, .inl (fun _ => 0))), (q4, .inl (cI, 60, .inl (fun _ => 0))), (q7, .inl (cI, 60, .inl (fun _ => 0))), (q10, .inl (cL, 60, .inr (.inl (fun _ => 0)))), (q13, .inl (cL, 8, .inr (.inl (fun _ => 0)))), (q16, .inl (cI, 30, .inl (fun _ => 0))), (q19, .inl (cL, 30, .inr (.inl (fun _ => 0)))), (q22, .inl (cI, 30, .inl (fun _ => 0))), (q25, .inl (cI, 30, .inl (fun _ => 0))), (q28, .inl (cL, 30, .inr (.inl (fun _ => 0))))] H30 := hPn
  replace hD : va_D A [(h0, .inr (2, [.int 0, .ref q1, .ref q4, .ref q7, .ref q10, .ref q13, .int 0, .ref q16, .ref q19, .ref q22, .ref q25, .ref q28, .int 0, .int 0])), (q1, .inl (cI, 60, .inl (fun _ => 0))), (q4, .inl (cI, 60, .inl (fun _ => 0))), (q7, .inl (cI, 60, .inl (fun _ => 0))), (q10, .inl (cL, 60, .inr (.inl (fun _ => 0)))), (q13, .inl (cL, 8, .inr (.inl (fun _ => 0)))), (q16, .inl (cI, 30, .inl (fun _ => 0))), (q19, .inl (cL, 30, .inr (.inl (fun _ => 0)))), (q22, .inl (cI, 30, .inl (fun _ => 0))), (q25, .inl (cI, 30, .inl (fun _ => 0))), (q28, .inl (cL, 30, .inr (.inl (fun _ => 0))))] := hDn
  replace hS := hSn
  clear hPn hDn hSn
  have hP9 := hP.sub (ws' := [(h0, .inr (2, [.int 0, .ref q1, .ref q4, .ref q7, .ref q10, .ref q13, .int 0, .ref q16, .ref q19, .ref q22, .ref q25, .ref q28, .int 0, .int 0])), (q1, .inl (cI, 60, .inl (fun _ => 0))), (q4, .inl (cI, 60, .inl (fun _ => 0))), (q7, .inl (cI, 60, .inl (fun _ => 0))), (q10, .inl (cL, 60, .inr (.inl (fun _ => 0)))), (q13, .inl (cL, 8, .inr (.inl (fun _ => 0)))), (q16, .inl (cI, 30, .inl (fun _ => 0))), (q19, .inl (cL, 30, .inr (.inl (fun _ => 0)))), (q22, .inl (cI, 30, .inl (fun _ => 0))), (q25, .inl (cI, 30, .inl (fun _ => 0))), (q28, .inl (cL, 30, .inr (.inl (fun _ => 0))))]) [0, 1, 2, 3, 4, 5, 6, 7, 8, 9, 10] rfl
  have hD9 := hD.sub (ws' := [(h0, .inr (2, [.int 0, .ref q1, .ref q4, .ref q7, .ref q10, .ref q13, .int 0, .ref q16, .ref q19, .ref q22, .ref q25, .ref q28, .int 0, .int 0])), (q1, .inl (cI, 60, .inl (fun _ => 0))), (q4, .inl (cI, 60, .inl (fun _ => 0))), (q7, .inl (cI, 60, .inl (fun _ => 0))), (q10, .inl (cL, 60, .inr (.inl (fun _ => 0)))), (q13, .inl (cL, 8, .inr (.inl (fun _ => 0)))), (q16, .inl (cI, 30, .inl (fun _ => 0))), (q19, .inl (cL, 30, .inr (.inl (fun _ => 0)))), (q22, .inl (cI, 30, .inl (fun _ => 0))), (q25, .inl (cI, 30, .inl (fun _ => 0))), (q28, .inl (cL, 30, .inr (.inl (fun _ => 0))))]) [0, 1, 2, 3, 4, 5, 6, 7, 8, 9, 10] (by decide) rfl
  exact W.vret hx hb hr (fun t ht9 hW => ⟨⟨(), rfl, trivial, q1, q4, q7, q10, q13, q16, q19, q22, q25, q28, by rw [ht9]; exact hP9, hD9⟩, hS.F ht9⟩) hS.2.2 d_Pf_init_84

set_option maxHeartbeats 4000000 in
set_option maxRecDepth 100000 in
theorem c_Po_init (l : Launch) (dC : Nat → ClassId) (dI : Nat → Nat → Nat) (cI cL cZ : ClassId) (sz : Nat) (h0 : Nat) (h1 : Nat) : Met l y_Po_init (Cond.code y_Po_init prog_4_method_1_code 2 none :: wsA) { frames := 1, cells := 3, slots := 603, locals := 12 } (va_Pc [.ref h0, .ref h1] (fun U => U.heap.size = sz ∧ va_P (dC, dI) clA [(h0, .inr (5, [.null, .int 0, .null, .null, .null]))] U.heap ∧ va_K (dC, dI) clA [(cI, .int), (cL, .long), (cZ, .boolean)] U ∧ va_D (fun _ => True) [(h0, .inr (5, [.null, .int 0, .null, .null, .null]))] ∧ NwA U)) (va_Qv (fun _ : Unit => True) (fun _ t => ∃ q1 q4 q7 : Nat, va_P (dC, dI) clA [(h0, .inr (5, [.ref h1, .int 0, .ref q1, .ref q4, .ref q7])), (q1, .inl (cI, 201, .inl (fun _ => 0))), (q4, .inl (cL, 201, .inr (.inl (fun _ => 0)))), (q7, .inl (cL, 201, .inr (.inl (fun _ => 0))))] t.heap ∧ va_D (va_A [(h0, .inr (5, [.null, .int 0, .null, .null, .null]))] sz) [(h0, .inr (5, [.ref h1, .int 0, .ref q1, .ref q4, .ref q7])), (q1, .inl (cI, 201, .inl (fun _ => 0))), (q4, .inl (cL, 201, .inr (.inl (fun _ => 0)))), (q7, .inl (cL, 201, .inr (.inl (fun _ => 0))))]) (va_A [(h0, .inr (5, [.null, .int 0, .null, .null, .null]))] sz)) 3 603 (va_A [(h0, .inr (5, [.null, .int 0, .null, .null, .null]))] sz) := by
  refine Met.ofW (cc := prog_4_method_1_code) (maxL := 2) (ret := none) (by decide) rfl ?_
  intro p e s m args below meth c s₁ B hml hv
  obtain ⟨rfl, hsz, hP, hK, hD0, hN⟩ := hv
  have hx := B.exec
  have hb := B.bytes
  have hr := B.returns
  have ht : ∀ w ∈ wsA, w.before _ s = true := fun w h => atoms_spec (ws := (Cond.code y_Po_init prog_4_method_1_code 2 none :: wsA)) B.pre w (List.mem_cons_of_mem _ h)
  have hown : s.vm.findClass "NetUnfolder$Possible" = some m.cls := findClass_of_methodNamed B.named
  have hlocks := B.notSynchronized
  have hin : meth.name = "<init>" := (name_of_methodNamed B.named B.method).1
  subst hsz
  have hD := hD0.self (sz := s.heap.size)
  generalize hAe : va_A [(h0, .inr (5, [.null, .int 0, .null, .null, .null]))] s.heap.size = A at hD ⊢
  have hA : ∀ q : Nat, s.heap.size ≤ q → A q := fun q h => by rw [← hAe]; exact Or.inr h
  have hS : va_S A s.heap s.heap [] := va_S.rf
  have hl := lv_entry ([.ref h0, .ref h1]) (n := 2) (Nat.le_of_ble_eq_true rfl)
  rw [lg_entry_eq]
  generalize (lg_sl ([.ref h0, .ref h1]) ++ List.replicate (2 - (lg_sl ([.ref h0, .ref h1])).length) Slot.unset).toArray = ls at hl ⊢
  replace hl : lv_has ls 2 [(0, .ref h0), (1, .ref h1)] := hl
  refine lv_aload_n hx hb d_Po_init_0 rfl (lv_at hl 0 rfl) ?_
  refine W.objInit hx hb hown (ht (.methodLink "NetUnfolder$Possible" 3 Lib.objectInit) wd_1_163) (ht (.instanceMethod Lib.objectInit) wd_1_25) (ht (.code Lib.objectInit ⟨#[0xb1]⟩ 1 none) wd_1_26) rfl (by rw [hml]; exact hl.1) rfl d_Po_init_1 (Nat.le_of_ble_eq_true rfl) (Nat.le_of_ble_eq_true rfl) ?_
  refine W.eq (g2 := F0 m 4 ls []) rfl ?_
  refine lv_aload_n hx hb d_Po_init_4 rfl (lv_at hl 0 rfl) ?_
  refine lv_sipush (v := 201) hx hb d_Po_init_5 (by decide) ?_
  refine nx_newaI hx hb (ht _ wd_1_55) hK hP hD hS hA 0 rfl (N' := 201) (by decide) (by decide) (Nat.le_of_ble_eq_true rfl) (Nat.le_of_ble_eq_true rfl) (Nat.le_of_ble_eq_true rfl) d_Po_init_8 (fun q1 H2 hPn hDn hSn => ?_)
  replace hP : va_P (dC, dI) clA [(h0, .inr (5, [.null, .int 0, .null, .null, .null])), (q1, .inl (cI, 201, .inl (fun _ => 0)))] H2 := hPn
  replace hD : va_D A [(h0, .inr (5, [.null, .int 0, .null, .null, .null])), (q1, .inl (cI, 201, .inl (fun _ => 0)))] := hDn
  replace hS := hSn
  clear hPn hDn hSn
  refine W.cs (cells' := 1) (slots' := 201) rfl rfl ?_
  refine va_putF (D := (dC, dI)) (ci := 5) (v := .ref q1) (ty := .array .int) (C := "NetUnfolder$Possible") (T := T_Po) (N := 5) hx hb ht in_Po ty_Po ok_Po nm_Po hown hK hP hD hS 0 rfl rfl 2 (by decide) (ht _ wd_1_167) (fun _ h9 => h9) rfl hin rfl (by decide +kernel) rfl rfl (Nat.le_of_ble_eq_true rfl) d_Po_init_10 (fun H3 locs hPn hDn hSn => ?_)
  replace hP : va_P (dC, dI) clA [(h0, .inr (5, [.null, .int 0, .ref q1, .null, .null])), (q1, .inl (cI, 201, .inl (fun _ => 0)))] H3 := hPn
  replace hD : va_D A [(h0, .inr (5, [.null, .int 0, .ref q1, .null, .null])), (q1, .inl (cI, 201, .inl (fun _ => 0)))] := hDn
  replace hS := hSn
  clear hPn hDn hSn
  refine lv_aload_n hx hb d_Po_init_13 rfl (lv_at hl 0 rfl) ?_
  refine lv_sipush (v := 201) hx hb d_Po_init_14 (by decide) ?_
  refine nx_newaJ hx hb (ht _ wd_1_136) hK hP hD hS hA 1 rfl (N' := 201) (by decide) (by decide) (Nat.le_of_ble_eq_true rfl) (Nat.le_of_ble_eq_true rfl) (Nat.le_of_ble_eq_true rfl) d_Po_init_17 (fun q4 H5 hPn hDn hSn => ?_)
  replace hP : va_P (dC, dI) clA [(h0, .inr (5, [.null, .int 0, .ref q1, .null, .null])), (q1, .inl (cI, 201, .inl (fun _ => 0))), (q4, .inl (cL, 201, .inr (.inl (fun _ => 0))))] H5 := hPn
  replace hD : va_D A [(h0, .inr (5, [.null, .int 0, .ref q1, .null, .null])), (q1, .inl (cI, 201, .inl (fun _ => 0))), (q4, .inl (cL, 201, .inr (.inl (fun _ => 0))))] := hDn
  replace hS := hSn
  clear hPn hDn hSn
  refine W.cs (cells' := 2) (slots' := 402) rfl rfl ?_
  refine va_putF (D := (dC, dI)) (ci := 5) (v := .ref q4) (ty := .array .long) (C := "NetUnfolder$Possible") (T := T_Po) (N := 5) hx hb ht in_Po ty_Po ok_Po nm_Po hown hK hP hD hS 0 rfl rfl 3 (by decide) (ht _ wd_1_169) (fun _ h9 => h9) rfl hin rfl (by decide +kernel) rfl rfl (Nat.le_of_ble_eq_true rfl) d_Po_init_19 (fun H6 locs hPn hDn hSn => ?_)
  replace hP : va_P (dC, dI) clA [(h0, .inr (5, [.null, .int 0, .ref q1, .ref q4, .null])), (q1, .inl (cI, 201, .inl (fun _ => 0))), (q4, .inl (cL, 201, .inr (.inl (fun _ => 0))))] H6 := hPn
  replace hD : va_D A [(h0, .inr (5, [.null, .int 0, .ref q1, .ref q4, .null])), (q1, .inl (cI, 201, .inl (fun _ => 0))), (q4, .inl (cL, 201, .inr (.inl (fun _ => 0))))] := hDn
  replace hS := hSn
  clear hPn hDn hSn
  refine lv_aload_n hx hb d_Po_init_22 rfl (lv_at hl 0 rfl) ?_
  refine lv_sipush (v := 201) hx hb d_Po_init_23 (by decide) ?_
  refine nx_newaJ hx hb (ht _ wd_1_136) hK hP hD hS hA 1 rfl (N' := 201) (by decide) (by decide) (Nat.le_of_ble_eq_true rfl) (Nat.le_of_ble_eq_true rfl) (Nat.le_of_ble_eq_true rfl) d_Po_init_26 (fun q7 H8 hPn hDn hSn => ?_)
  replace hP : va_P (dC, dI) clA [(h0, .inr (5, [.null, .int 0, .ref q1, .ref q4, .null])), (q1, .inl (cI, 201, .inl (fun _ => 0))), (q4, .inl (cL, 201, .inr (.inl (fun _ => 0)))), (q7, .inl (cL, 201, .inr (.inl (fun _ => 0))))] H8 := hPn
  replace hD : va_D A [(h0, .inr (5, [.null, .int 0, .ref q1, .ref q4, .null])), (q1, .inl (cI, 201, .inl (fun _ => 0))), (q4, .inl (cL, 201, .inr (.inl (fun _ => 0)))), (q7, .inl (cL, 201, .inr (.inl (fun _ => 0))))] := hDn
  replace hS := hSn
  clear hPn hDn hSn
  refine W.cs (cells' := 3) (slots' := 603) rfl rfl ?_
  refine va_putF (D := (dC, dI)) (ci := 5) (v := .ref q7) (ty := .array .long) (C := "NetUnfolder$Possible") (T := T_Po) (N := 5) hx hb ht in_Po ty_Po ok_Po nm_Po hown hK hP hD hS 0 rfl rfl 4 (by decide) (ht _ wd_1_171) (fun _ h9 => h9) rfl hin rfl (by decide +kernel) rfl rfl (Nat.le_of_ble_eq_true rfl) d_Po_init_28 (fun H9 locs hPn hDn hSn => ?_)
  replace hP : va_P (dC, dI) clA [(h0, .inr (5, [.null, .int 0, .ref q1, .ref q4, .ref q7])), (q1, .inl (cI, 201, .inl (fun _ => 0))), (q4, .inl (cL, 201, .inr (.inl (fun _ => 0)))), (q7, .inl (cL, 201, .inr (.inl (fun _ => 0))))] H9 := hPn
  replace hD : va_D A [(h0, .inr (5, [.null, .int 0, .ref q1, .ref q4, .ref q7])), (q1, .inl (cI, 201, .inl (fun _ => 0))), (q4, .inl (cL, 201, .inr (.inl (fun _ => 0)))), (q7, .inl (cL, 201, .inr (.inl (fun _ => 0))))] := hDn
  replace hS := hSn
  clear hPn hDn hSn
  refine lv_aload_n hx hb d_Po_init_31 rfl (lv_at hl 0 rfl) ?_
  refine lv_aload_n hx hb d_Po_init_32 rfl (lv_at hl 1 rfl) ?_
  refine va_putF (D := (dC, dI)) (ci := 5) (v := .ref h1) (ty := .object "NetUnfolder$Prefix") (C := "NetUnfolder$Possible") (T := T_Po) (N := 5) hx hb ht in_Po ty_Po ok_Po nm_Po hown hK hP hD hS 0 rfl rfl 0 (by decide) (ht _ wd_1_164) (fun _ h9 => h9) rfl hin rfl (by decide +kernel) rfl rfl (Nat.le_of_ble_eq_true rfl) d_Po_init_33 (fun H10 locs hPn hDn hSn => ?_)
  replace hP : va_P (dC, dI) clA [(h0, .inr (5, [.ref h1, .int 0, .ref q1, .ref q4, .ref q7])), (q1, .inl (cI, 201, .inl (fun _ => 0))), (q4, .inl (cL, 201, .inr (.inl (fun _ => 0)))), (q7, .inl (cL, 201, .inr (.inl (fun _ => 0))))] H10 := hPn
  replace hD : va_D A [(h0, .inr (5, [.ref h1, .int 0, .ref q1, .ref q4, .ref q7])), (q1, .inl (cI, 201, .inl (fun _ => 0))), (q4, .inl (cL, 201, .inr (.inl (fun _ => 0)))), (q7, .inl (cL, 201, .inr (.inl (fun _ => 0))))] := hDn
  replace hS := hSn
  clear hPn hDn hSn
  have hP9 := hP.sub (ws' := [(h0, .inr (5, [.ref h1, .int 0, .ref q1, .ref q4, .ref q7])), (q1, .inl (cI, 201, .inl (fun _ => 0))), (q4, .inl (cL, 201, .inr (.inl (fun _ => 0)))), (q7, .inl (cL, 201, .inr (.inl (fun _ => 0))))]) [0, 1, 2, 3] rfl
  have hD9 := hD.sub (ws' := [(h0, .inr (5, [.ref h1, .int 0, .ref q1, .ref q4, .ref q7])), (q1, .inl (cI, 201, .inl (fun _ => 0))), (q4, .inl (cL, 201, .inr (.inl (fun _ => 0)))), (q7, .inl (cL, 201, .inr (.inl (fun _ => 0))))]) [0, 1, 2, 3] (by decide) rfl
  exact W.vret hx hb hr (fun t ht9 hW => ⟨⟨(), rfl, trivial, q1, q4, q7, by rw [ht9]; exact hP9, hD9⟩, hS.F ht9⟩) hS.2.2 d_Po_init_36

set_option maxHeartbeats 4000000 in
set_option maxRecDepth 100000 in
theorem c_Un_init (l : Launch) (dC : Nat → ClassId) (dI : Nat → Nat → Nat) (cI cL cZ : ClassId) (sz : Nat) (h0 : Nat) (h1 : Nat) (h2 : Nat) (h3 : Nat) : Met l y_Un_init (Cond.code y_Un_init prog_8_method_1_code 4 none :: wsA) { frames := 2, cells := 4, slots := 608, locals := 33 } (va_Pc [.ref h0, .ref h1, .ref h2, .ref h3] (fun U => U.heap.size = sz ∧ va_P (dC, dI) clA [(h0, .inr (4, [.null, .null, .null, .null]))] U.heap ∧ va_K (dC, dI) clA [(cI, .int), (cL, .long), (cZ, .boolean)] U ∧ va_D (fun _ => True) [(h0, .inr (4, [.null, .null, .null, .null]))] ∧ NwA U)) (va_Qv (fun _ : Unit => True) (fun _ t => ∃ q4 q8 q9 q10 : Nat, va_P (dC, dI) clA [(h0, .inr (4, [.ref h1, .ref h2, .ref h3, .ref q4])), (q4, .inr (5, [.ref h2, .int 0, .ref q8, .ref q9, .ref q10])), (q8, .inl (cI, 201, .inl (fun _ => 0))), (q9, .inl (cL, 201, .inr (.inl (fun _ => 0)))), (q10, .inl (cL, 201, .inr (.inl (fun _ => 0))))] t.heap ∧ va_D (va_A [(h0, .inr (4, [.null, .null, .null, .null]))] sz) [(h0, .inr (4, [.ref h1, .ref h2, .ref h3, .ref q4])), (q4, .inr (5, [.ref h2, .int 0, .ref q8, .ref q9, .ref q10])), (q8, .inl (cI, 201, .inl (fun _ => 0))), (q9, .inl (cL, 201, .inr (.inl (fun _ => 0)))), (q10, .inl (cL, 201, .inr (.inl (fun _ => 0))))]) (va_A [(h0, .inr (4, [.null, .null, .null, .null]))] sz)) 4 608 (va_A [(h0, .inr (4, [.null, .null, .null, .null]))] sz) := by
  refine Met.ofW (cc := prog_8_method_1_code) (maxL := 4) (ret := none) (by decide) rfl ?_
  intro p e s m args below meth c s₁ B hml hv
  obtain ⟨rfl, hsz, hP, hK, hD0, hN⟩ := hv
  have hx := B.exec
  have hb := B.bytes
  have hr := B.returns
  have ht : ∀ w ∈ wsA, w.before _ s = true := fun w h => atoms_spec (ws := (Cond.code y_Un_init prog_8_method_1_code 4 none :: wsA)) B.pre w (List.mem_cons_of_mem _ h)
  have hown : s.vm.findClass "NetUnfolder$Unfolding" = some m.cls := findClass_of_methodNamed B.named
  have hlocks := B.notSynchronized
  have hin : meth.name = "<init>" := (name_of_methodNamed B.named B.method).1
  subst hsz
  have hD := hD0.self (sz := s.heap.size)
  generalize hAe : va_A [(h0, .inr (4, [.null, .null, .null, .null]))] s.heap.size = A at hD ⊢
  have hA : ∀ q : Nat, s.heap.size ≤ q → A q := fun q h => by rw [← hAe]; exact Or.inr h
  have hS : va_S A s.heap s.heap [] := va_S.rf
  have hl := lv_entry ([.ref h0, .ref h1, .ref h2, .ref h3]) (n := 4) (Nat.le_of_ble_eq_true rfl)
  rw [lg_entry_eq]
  generalize (lg_sl ([.ref h0, .ref h1, .ref h2, .ref h3]) ++ List.replicate (4 - (lg_sl ([.ref h0, .ref h1, .ref h2, .ref h3])).length) Slot.unset).toArray = ls at hl ⊢
  replace hl : lv_has ls 4 [(0, .ref h0), (1, .ref h1), (2, .ref h2), (3, .ref h3)] := hl
  refine lv_aload_n hx hb d_Un_init_0 rfl (lv_at hl 0 rfl) ?_
  refine W.objInit hx hb hown (ht (.methodLink "NetUnfolder$Unfolding" 3 Lib.objectInit) wd_1_157) (ht (.instanceMethod Lib.objectInit) wd_1_25) (ht (.code Lib.objectInit ⟨#[0xb1]⟩ 1 none) wd_1_26) rfl (by rw [hml]; exact hl.1) rfl d_Un_init_1 (Nat.le_of_ble_eq_true rfl) (Nat.le_of_ble_eq_true rfl) ?_
  refine W.eq (g2 := F0 m 4 ls []) rfl ?_
  refine lv_aload_n hx hb d_Un_init_4 rfl (lv_at hl 0 rfl) ?_
  refine lv_aload_n hx hb d_Un_init_5 rfl (lv_at hl 1 rfl) ?_
  refine va_putF (D := (dC, dI)) (ci := 4) (v := .ref h1) (ty := .object "NetUnfolder$Net") (C := "NetUnfolder$Unfolding") (T := T_Un) (N := 4) hx hb ht in_Un ty_Un ok_Un nm_Un hown hK hP hD hS 0 rfl rfl 0 (by decide) (ht _ wd_1_184) (fun _ h9 => h9) rfl hin rfl (by decide +kernel) rfl rfl (Nat.le_of_ble_eq_true rfl) d_Un_init_6 (fun H1 locs hPn hDn hSn => ?_)
  replace hP : va_P (dC, dI) clA [(h0, .inr (4, [.ref h1, .null, .null, .null]))] H1 := hPn
  replace hD : va_D A [(h0, .inr (4, [.ref h1, .null, .null, .null]))] := hDn
  replace hS := hSn
  clear hPn hDn hSn
  refine lv_aload_n hx hb d_Un_init_9 rfl (lv_at hl 0 rfl) ?_
  refine lv_aload_n hx hb d_Un_init_10 rfl (lv_at hl 2 rfl) ?_
  refine va_putF (D := (dC, dI)) (ci := 4) (v := .ref h2) (ty := .object "NetUnfolder$Prefix") (C := "NetUnfolder$Unfolding") (T := T_Un) (N := 4) hx hb ht in_Un ty_Un ok_Un nm_Un hown hK hP hD hS 0 rfl rfl 1 (by decide) (ht _ wd_1_185) (fun _ h9 => h9) rfl hin rfl (by decide +kernel) rfl rfl (Nat.le_of_ble_eq_true rfl) d_Un_init_11 (fun H2 locs hPn hDn hSn => ?_)
  replace hP : va_P (dC, dI) clA [(h0, .inr (4, [.ref h1, .ref h2, .null, .null]))] H2 := hPn
  replace hD : va_D A [(h0, .inr (4, [.ref h1, .ref h2, .null, .null]))] := hDn
  replace hS := hSn
  clear hPn hDn hSn
  refine lv_aload_n hx hb d_Un_init_14 rfl (lv_at hl 0 rfl) ?_
  refine lv_aload_n hx hb d_Un_init_15 rfl (lv_at hl 3 rfl) ?_
  refine va_putF (D := (dC, dI)) (ci := 4) (v := .ref h3) (ty := .object "NetUnfolder$Way") (C := "NetUnfolder$Unfolding") (T := T_Un) (N := 4) hx hb ht in_Un ty_Un ok_Un nm_Un hown hK hP hD hS 0 rfl rfl 2 (by decide) (ht _ wd_1_186) (fun _ h9 => h9) rfl hin rfl (by decide +kernel) rfl rfl (Nat.le_of_ble_eq_true rfl) d_Un_init_16 (fun H3 locs hPn hDn hSn => ?_)
  replace hP : va_P (dC, dI) clA [(h0, .inr (4, [.ref h1, .ref h2, .ref h3, .null]))] H3 := hPn
  replace hD : va_D A [(h0, .inr (4, [.ref h1, .ref h2, .ref h3, .null]))] := hDn
  replace hS := hSn
  clear hPn hDn hSn
  refine lv_aload_n hx hb d_Un_init_19 rfl (lv_at hl 0 rfl) ?_
  refine va_new (ci := 5) (fs := [.null, .int 0, .null, .null, .null]) (C := "NetUnfolder$Possible") (T := T_Po) (N := 5) hx hb ht in_Po ty_Po ok_Po hown (ht _ wd_1_158) (ht _ wd_1_159) (ht _ wd_1_6) hK hP hD hS hA rfl (by decide +kernel) (Nat.le_of_ble_eq_true rfl) (Nat.le_of_ble_eq_true rfl) d_Un_init_20 (fun q4 H5 hPn hDn hSn => ?_)
  replace hP : va_P (dC, dI) clA [(h0, .inr (4, [.ref h1, .ref h2, .ref h3, .null])), (q4, .inr (5, [.null, .int 0, .null, .null, .null]))] H5 := hPn
  replace hD : va_D A [(h0, .inr (4, [.ref h1, .ref h2, .ref h3, .null])), (q4, .inr (5, [.null, .int 0, .null, .null, .null]))] := hDn
  replace hS := hSn
  clear hPn hDn hSn
  refine W.cs (cells' := 1) (slots' := 5) rfl rfl ?_
  refine lv_dup hx hb d_Un_init_23 rfl ?_
  refine lv_aload_n hx hb d_Un_init_24 rfl (lv_at hl 2 rfl) ?_
  have hPc := hP.sub (ws' := [(q4, .inr (5, [.null, .int 0, .null, .null, .null]))]) [1] rfl
  have hDc := hD.sub (ws' := [(q4, .inr (5, [.null, .int 0, .null, .null, .null]))]) [1] (by decide) rfl
  have hFc := va_free (wc := [(q4, .inr (5, [.null, .int 0, .null, .null, .null]))]) hD hS hA [1] rfl
  refine va_callv (va_runI (As := [.ref h2]) (rest := [.ref q4, .ref h0]) ⟨hx, hb, hml, hown, ht⟩ (c_Po_init l dC dI cI cL cZ _ q4 h2 ) (cwI 1 ht (goodA wd_1_162) rfl rfl rfl (ht _ wd_1_6) (ht _ wd_1_160) (ht _ wd_1_161) rfl (by decide +kernel) ⟨Nat.le_of_ble_eq_true rfl, Nat.le_of_ble_eq_true rfl⟩) ⟨fun a U g mk q => by obtain ⟨q0, q1, qP, qK, qD, qN⟩ := q; exact ⟨q0, q1, qP, va_K.moved (u := U) (U := U.calling g mk a) (Vm.Alike.refl U.vm) qK, qD, NwA.same (u := U) rfl qN⟩, fun U hU hW => ⟨rfl, by rw [hU], by rw [hU]; exact hPc, va_K.moved hW.alike hK, hDc.weaken (fun _ _ _ _ => trivial), NwA.warm hW hN⟩⟩ rfl rfl hl.1 rfl (lv_room (Nat.le_of_ble_eq_true rfl)) d_Un_init_25 ⟨Nat.le_of_ble_eq_true rfl, Nat.le_of_ble_eq_true rfl⟩) hS (fun q _ h => hFc q h) hFc (fun u t H6 locs ht9 hvm hw7 hB hz1 hk1 hSn => ?_)
  obtain ⟨q8, q9, q10, hP1, hD1⟩ := hB
  rw [ht9] at hP1
  obtain ⟨hPn, hDn⟩ := va_join (wr := [(h0, .inr (4, [.ref h1, .ref h2, .ref h3, .null]))]) (w1 := [(q4, .inr (5, [.ref h2, .int 0, .ref q8, .ref q9, .ref q10])), (q8, .inl (cI, 201, .inl (fun _ => 0))), (q9, .inl (cL, 201, .inr (.inl (fun _ => 0)))), (q10, .inl (cL, 201, .inr (.inl (fun _ => 0))))]) hP hD [1] [0] rfl rfl (by decide) (by decide) hk1 hFc hP1 hD1
  replace hP : va_P (dC, dI) clA [(h0, .inr (4, [.ref h1, .ref h2, .ref h3, .null])), (q4, .inr (5, [.ref h2, .int 0, .ref q8, .ref q9, .ref q10])), (q8, .inl (cI, 201, .inl (fun _ => 0))), (q9, .inl (cL, 201, .inr (.inl (fun _ => 0)))), (q10, .inl (cL, 201, .inr (.inl (fun _ => 0))))] H6 := hPn
  replace hD : va_D A [(h0, .inr (4, [.ref h1, .ref h2, .ref h3, .null])), (q4, .inr (5, [.ref h2, .int 0, .ref q8, .ref q9, .ref q10])), (q8, .inl (cI, 201, .inl (fun _ => 0))), (q9, .inl (cL, 201, .inr (.inl (fun _ => 0)))), (q10, .inl (cL, 201, .inr (.inl (fun _ => 0))))] := hDn
  replace hS := hSn
  clear hPn hDn hSn
  clear hPc hDc hFc hP1 hD1 hk1 hz1 ht9 hvm
  refine W.cs (cells' := 4) (slots' := 608) rfl rfl ?_
  refine va_putF (D := (dC, dI)) (ci := 4) (v := .ref q4) (ty := .object "NetUnfolder$Possible") (C := "NetUnfolder$Unfolding") (T := T_Un) (N := 4) hx hb ht in_Un ty_Un ok_Un nm_Un hown hK hP hD hS 0 rfl rfl 3 (by decide) (ht _ wd_1_187) (fun _ h9 => h9) rfl hin rfl (by decide +kernel) rfl rfl (Nat.le_of_ble_eq_true rfl) d_Un_init_28 (fun H11 locs hPn hDn hSn => ?_)
  replace hP : va_P (dC, dI) clA [(h0, .inr (4, [.ref h1, .ref h2, .ref h3, .ref q4])), (q4, .inr (5, [.ref h2, .int 0, .ref q8, .ref q9, .ref q10])), (q8, .inl (cI, 201, .inl (fun _ => 0))), (q9, .inl (cL, 201, .inr (.inl (fun _ => 0)))), (q10, .inl (cL, 201, .inr (.inl (fun _ => 0))))] H11 := hPn
  replace hD : va_D A [(h0, .inr (4, [.ref h1, .ref h2, .ref h3, .ref q4])), (q4, .inr (5, [.ref h2, .int 0, .ref q8, .ref q9, .ref q10])), (q8, .inl (cI, 201, .inl (fun _ => 0))), (q9, .inl (cL, 201, .inr (.inl (fun _ => 0)))), (q10, .inl (cL, 201, .inr (.inl (fun _ => 0))))] := hDn
  replace hS := hSn
  clear hPn hDn hSn
  have hP9 := hP.sub (ws' := [(h0, .inr (4, [.ref h1, .ref h2, .ref h3, .ref q4])), (q4, .inr (5, [.ref h2, .int 0, .ref q8, .ref q9, .ref q10])), (q8, .inl (cI, 201, .inl (fun _ => 0))), (q9, .inl (cL, 201, .inr (.inl (fun _ => 0)))), (q10, .inl (cL, 201, .inr (.inl (fun _ => 0))))]) [0, 1, 2, 3, 4] rfl
  have hD9 := hD.sub (ws' := [(h0, .inr (4, [.ref h1, .ref h2, .ref h3, .ref q4])), (q4, .inr (5, [.ref h2, .int 0, .ref q8, .ref q9, .ref q10])), (q8, .inl (cI, 201, .inl (fun _ => 0))), (q9, .inl (cL, 201, .inr (.inl (fun _ => 0)))), (q10, .inl (cL, 201, .inr (.inl (fun _ => 0))))]) [0, 1, 2, 3, 4] (by decide) rfl
  exact W.vret hx hb hr (fun t ht9 hW => ⟨⟨(), rfl, trivial, q4, q8, q9, q10, by rw [ht9]; exact hP9, hD9⟩, hS.F ht9⟩) hS.2.2 d_Un_init_31

set_option maxHeartbeats 4000000 in
set_option maxRecDepth 100000 in
theorem c_Cs_init (l : Launch) (dC : Nat → ClassId) (dI : Nat → Nat → Nat) (cI cL cZ : ClassId) (sz : Nat) (h0 : Nat) : Met l y_Cs_init (Cond.code y_Cs_init prog_2_method_1_code 1 none :: wsA) { frames := 1, cells := 2, slots := 1630, locals := 12 } (va_Pc [.ref h0] (fun U => U.heap.size = sz ∧ va_P (dC, dI) clA [(h0, .inr (7, [.null, .null, .int 0, .int 0]))] U.heap ∧ va_K (dC, dI) clA [(cI, .int), (cL, .long), (cZ, .boolean)] U ∧ va_D (fun _ => True) [(h0, .inr (7, [.null, .null, .int 0, .int 0]))] ∧ NwA U)) (va_Qv (fun _ : Unit => True) (fun _ t => ∃ q1 q4 : Nat, va_P (dC, dI) clA [(h0, .inr (7, [.ref q1, .ref q4, .int 0, .int 0])), (q1, .inl (cL, 815, .inr (.inl (fun _ => 0)))), (q4, .inl (cL, 815, .inr (.inl (fun _ => 0))))] t.heap ∧ va_D (va_A [(h0, .inr (7, [.null, .null, .int 0, .int 0]))] sz) [(h0, .inr (7, [.ref q1, .ref q4, .int 0, .int 0])), (q1, .inl (cL, 815, .inr (.inl (fun _ => 0)))), (q4, .inl (cL, 815, .inr (.inl (fun _ => 0))))]) (va_A [(h0, .inr (7, [.null, .null, .int 0, .int 0]))] sz)) 2 1630 (va_A [(h0, .inr (7, [.null, .null, .int 0, .int 0]))] sz) := by
  refine Met.ofW (cc := prog_2_method_1_code) (maxL := 1) (ret := none) (by decide) rfl ?_
  intro p e s m args below meth c s₁ B hml hv
  obtain ⟨rfl, hsz, hP, hK, hD0, hN⟩ := hv
  have hx := B.exec
  have hb := B.bytes
  have hr := B.returns
  have ht : ∀ w ∈ wsA, w.before _ s = true := fun w h => atoms_spec (ws := (Cond.code y_Cs_init prog_2_method_1_code 1 none :: wsA)) B.pre w (List.mem_cons_of_mem _ h)
  have hown : s.vm.findClass "NetUnfolder$Clauses" = some m.cls := findClass_of_methodNamed B.named
  have hlocks := B.notSynchronized
  have hin : meth.name = "<init>" := (name_of_methodNamed B.named B.method).1
  subst hsz
  have hD := hD0.self (sz := s.heap.size)
  generalize hAe : va_A [(h0, .inr (7, [.null, .null, .int 0, .int 0]))] s.heap.size = A at hD ⊢
  have hA : ∀ q : Nat, s.heap.size ≤ q → A q := fun q h => by rw [← hAe]; exact Or.inr h
  have hS : va_S A s.heap s.heap [] := va_S.rf
  have hl := lv_entry ([.ref h0]) (n := 1) (Nat.le_of_ble_eq_true rfl)
  rw [lg_entry_eq]
  generalize (lg_sl ([.ref h0]) ++ List.replicate (1 - (lg_sl ([.ref h0])).length) Slot.unset).toArray = ls at hl ⊢
  replace hl : lv_has ls 1 [(0, .ref h0)] := hl
  refine lv_aload_n hx hb d_Cs_init_0 rfl (lv_at hl 0 rfl) ?_
  refine W.objInit hx hb hown (ht (.methodLink "NetUnfolder$Clauses" 3 Lib.objectInit) wd_1_208) (ht (.instanceMethod Lib.objectInit) wd_1_25) (ht (.code Lib.objectInit ⟨#[0xb1]⟩ 1 none) wd_1_26) rfl (by rw [hml]; exact hl.1) rfl d_Cs_init_1 (Nat.le_of_ble_eq_true rfl) (Nat.le_of_ble_eq_true rfl) ?_
  refine W.eq (g2 := F0 m 4 ls []) rfl ?_
  refine lv_aload_n hx hb d_Cs_init_4 rfl (lv_at hl 0 rfl) ?_
  refine lv_sipush (v := 815) hx hb d_Cs_init_5 (by decide) ?_
  refine nx_newaJ hx hb (ht _ wd_1_136) hK hP hD hS hA 1 rfl (N' := 815) (by decide) (by decide) (Nat.le_of_ble_eq_true rfl) (Nat.le_of_ble_eq_true rfl) (Nat.le_of_ble_eq_true rfl) d_Cs_init_8 (fun q1 H2 hPn hDn hSn => ?_)
  replace hP : va_P (dC, dI) clA [(h0, .inr (7, [.null, .null, .int 0, .int 0])), (q1, .inl (cL, 815, .inr (.inl (fun _ => 0))))] H2 := hPn
  replace hD : va_D A [(h0, .inr (7, [.null, .null, .int 0, .int 0])), (q1, .inl (cL, 815, .inr (.inl (fun _ => 0))))] := hDn
  replace hS := hSn
  clear hPn hDn hSn
  refine W.cs (cells' := 1) (slots' := 815) rfl rfl ?_
  refine va_putF (D := (dC, dI)) (ci := 7) (v := .ref q1) (ty := .array .long) (C := "NetUnfolder$Clauses") (T := T_Cs) (N := 4) hx hb ht in_Cs ty_Cs ok_Cs nm_Cs hown hK hP hD hS 0 rfl rfl 0 (by decide) (ht _ wd_1_209) (fun _ h9 => h9) rfl hin rfl (by decide +kernel) rfl rfl (Nat.le_of_ble_eq_true rfl) d_Cs_init_10 (fun H3 locs hPn hDn hSn => ?_)
  replace hP : va_P (dC, dI) clA [(h0, .inr (7, [.ref q1, .null, .int 0, .int 0])), (q1, .inl (cL, 815, .inr (.inl (fun _ => 0))))] H3 := hPn
  replace hD : va_D A [(h0, .inr (7, [.ref q1, .null, .int 0, .int 0])), (q1, .inl (cL, 815, .inr (.inl (fun _ => 0))))] := hDn
  replace hS := hSn
  clear hPn hDn hSn
  refine lv_aload_n hx hb d_Cs_init_13 rfl (lv_at hl 0 rfl) ?_
  refine lv_sipush (v := 815) hx hb d_Cs_init_14 (by decide) ?_
  refine nx_newaJ hx hb (ht _ wd_1_136) hK hP hD hS hA 1 rfl (N' := 815) (by decide) (by decide) (Nat.le_of_ble_eq_true rfl) (Nat.le_of_ble_eq_true rfl) (Nat.le_of_ble_eq_true rfl) d_Cs_init_17 (fun q4 H5 hPn hDn hSn => ?_)
  replace hP : va_P (dC, dI) clA [(h0, .inr (7, [.ref q1, .null, .int 0, .int 0])), (q1, .inl (cL, 815, .inr (.inl (fun _ => 0)))), (q4, .inl (cL, 815, .inr (.inl (fun _ => 0))))] H5 := hPn
  replace hD : va_D A [(h0, .inr (7, [.ref q1, .null, .int 0, .int 0])), (q1, .inl (cL, 815, .inr (.inl (fun _ => 0)))), (q4, .inl (cL, 815, .inr (.inl (fun _ => 0))))] := hDn
  replace hS := hSn
  clear hPn hDn hSn
  refine W.cs (cells' := 2) (slots' := 1630) rfl rfl ?_
  refine va_putF (D := (dC, dI)) (ci := 7) (v := .ref q4) (ty := .array .long) (C := "NetUnfolder$Clauses") (T := T_Cs) (N := 4) hx hb ht in_Cs ty_Cs ok_Cs nm_Cs hown hK hP hD hS 0 rfl rfl 1 (by decide) (ht _ wd_1_211) (fun _ h9 => h9) rfl hin rfl (by decide +kernel) rfl rfl (Nat.le_of_ble_eq_true rfl) d_Cs_init_19 (fun H6 locs hPn hDn hSn => ?_)
  replace hP : va_P (dC, dI) clA [(h0, .inr (7, [.ref q1, .ref q4, .int 0, .int 0])), (q1, .inl (cL, 815, .inr (.inl (fun _ => 0)))), (q4, .inl (cL, 815, .inr (.inl (fun _ => 0))))] H6 := hPn
  replace hD : va_D A [(h0, .inr (7, [.ref q1, .ref q4, .int 0, .int 0])), (q1, .inl (cL, 815, .inr (.inl (fun _ => 0)))), (q4, .inl (cL, 815, .inr (.inl (fun _ => 0))))] := hDn
  replace hS := hSn
  clear hPn hDn hSn
  have hP9 := hP.sub (ws' := [(h0, .inr (7, [.ref q1, .ref q4, .int 0, .int 0])), (q1, .inl (cL, 815, .inr (.inl (fun _ => 0)))), (q4, .inl (cL, 815, .inr (.inl (fun _ => 0))))]) [0, 1, 2] rfl
  have hD9 := hD.sub (ws' := [(h0, .inr (7, [.ref q1, .ref q4, .int 0, .int 0])), (q1, .inl (cL, 815, .inr (.inl (fun _ => 0)))), (q4, .inl (cL, 815, .inr (.inl (fun _ => 0))))]) [0, 1, 2] (by decide) rfl
  exact W.vret hx hb hr (fun t ht9 hW => ⟨⟨(), rfl, trivial, q1, q4, by rw [ht9]; exact hP9, hD9⟩, hS.F ht9⟩) hS.2.2 d_Cs_init_22

set_option maxHeartbeats 4000000 in
set_option maxRecDepth 100000 in
theorem c_Se_init (l : Launch) (dC : Nat → ClassId) (dI : Nat → Nat → Nat) (cI cL cZ : ClassId) (sz : Nat) (h0 : Nat) (h1 : Nat) : Met l y_Se_init (Cond.code y_Se_init prog_7_method_1_code 2 none :: wsA) { frames := 1, cells := 3, slots := 115, locals := 12 } (va_Pc [.ref h0, .ref h1] (fun U => U.heap.size = sz ∧ va_P (dC, dI) clA [(h0, .inr (8, [.null, .long 0, .long 0, .int 0, .null, .null, .int 0, .null]))] U.heap ∧ va_K (dC, dI) clA [(cI, .int), (cL, .long), (cZ, .boolean)] U ∧ va_D (fun _ => True) [(h0, .inr (8, [.null, .long 0, .long 0, .int 0, .null, .null, .int 0, .null]))] ∧ NwA U)) (va_Qv (fun _ : Unit => True) (fun _ t => ∃ q1 q4 q7 : Nat, va_P (dC, dI) clA [(h0, .inr (8, [.ref h1, .long 0, .long 0, .int 0, .ref q1, .ref q4, .int 0, .ref q7])), (q1, .inl (cL, 39, .inr (.inl (fun _ => 0)))), (q4, .inl (cI, 38, .inl (fun _ => 0))), (q7, .inl (cI, 38, .inl (fun _ => 0)))] t.heap ∧ va_D (va_A [(h0, .inr (8, [.null, .long 0, .long 0, .int 0, .null, .null, .int 0, .null]))] sz) [(h0, .inr (8, [.ref h1, .long 0, .long 0, .int 0, .ref q1, .ref q4, .int 0, .ref q7])), (q1, .inl (cL, 39, .inr (.inl (fun _ => 0)))), (q4, .inl (cI, 38, .inl (fun _ => 0))), (q7, .inl (cI, 38, .inl (fun _ => 0)))]) (va_A [(h0, .inr (8, [.null, .long 0, .long 0, .int 0, .null, .null, .int 0, .null]))] sz)) 3 115 (va_A [(h0, .inr (8, [.null, .long 0, .long 0, .int 0, .null, .null, .int 0, .null]))] sz) := by
  refine Met.ofW (cc := prog_7_method_1_code) (maxL := 2) (ret := none) (by decide) rfl ?_
  intro p e s m args below meth c s₁ B hml hv
  obtain ⟨rfl, hsz, hP, hK, hD0, hN⟩ := hv
  have hx := B.exec
  have hb := B.bytes
  have hr := B.returns
  have ht : ∀ w ∈ wsA, w.before _ s = true := fun w h => atoms_spec (ws := (Cond.code y_Se_init prog_7_method_1_code 2 none :: wsA)) B.pre w (List.mem_cons_of_mem _ h)
  have hown : s.vm.findClass "NetUnfolder$Search" = some m.cls := findClass_of_methodNamed B.named
  have hlocks := B.notSynchronized
  have hin : meth.name = "<init>" := (name_of_methodNamed B.named B.method).1
  subst hsz
  have hD := hD0.self (sz := s.heap.size)
  generalize hAe : va_A [(h0, .inr (8, [.null, .long 0, .long 0, .int 0, .null, .null, .int 0, .null]))] s.heap.size = A at hD ⊢
  have hA : ∀ q : Nat, s.heap.size ≤ q → A q := fun q h => by rw [← hAe]; exact Or.inr h
  have hS : va_S A s.heap s.heap [] := va_S.rf
  have hl := lv_entry ([.ref h0, .ref h1]) (n := 2) (Nat.le_of_ble_eq_true rfl)
  rw [lg_entry_eq]
  generalize (lg_sl ([.ref h0, .ref h1]) ++ List.replicate (2 - (lg_sl ([.ref h0, .ref h1])).length) Slot.unset).toArray = ls at hl ⊢
  replace hl : lv_has ls 2 [(0, .ref h0), (1, .ref h1)] := hl
  refine lv_aload_n hx hb d_Se_init_0 rfl (lv_at hl 0 rfl) ?_
  refine W.objInit hx hb hown (ht (.methodLink "NetUnfolder$Search" 3 Lib.objectInit) wd_1_231) (ht (.instanceMethod Lib.objectInit) wd_1_25) (ht (.code Lib.objectInit ⟨#[0xb1]⟩ 1 none) wd_1_26) rfl (by rw [hml]; exact hl.1) rfl d_Se_init_1 (Nat.le_of_ble_eq_true rfl) (Nat.le_of_ble_eq_true rfl) ?_
  refine W.eq (g2 := F0 m 4 ls []) rfl ?_
  refine lv_aload_n hx hb d_Se_init_4 rfl (lv_at hl 0 rfl) ?_
  refine lv_bipush (v := 39) hx hb d_Se_init_5 (by decide) ?_
  refine nx_newaJ hx hb (ht _ wd_1_136) hK hP hD hS hA 1 rfl (N' := 39) (by decide) (by decide) (Nat.le_of_ble_eq_true rfl) (Nat.le_of_ble_eq_true rfl) (Nat.le_of_ble_eq_true rfl) d_Se_init_7 (fun q1 H2 hPn hDn hSn => ?_)
  replace hP : va_P (dC, dI) clA [(h0, .inr (8, [.null, .long 0, .long 0, .int 0, .null, .null, .int 0, .null])), (q1, .inl (cL, 39, .inr (.inl (fun _ => 0))))] H2 := hPn
  replace hD : va_D A [(h0, .inr (8, [.null, .long 0, .long 0, .int 0, .null, .null, .int 0, .null])), (q1, .inl (cL, 39, .inr (.inl (fun _ => 0))))] := hDn
  replace hS := hSn
  clear hPn hDn hSn
  refine W.cs (cells' := 1) (slots' := 39) rfl rfl ?_
  refine va_putF (D := (dC, dI)) (ci := 8) (v := .ref q1) (ty := .array .long) (C := "NetUnfolder$Search") (T := T_Se) (N := 8) hx hb ht in_Se ty_Se ok_Se nm_Se hown hK hP hD hS 0 rfl rfl 4 (by decide) (ht _ wd_1_236) (fun _ h9 => h9) rfl hin rfl (by decide +kernel) rfl rfl (Nat.le_of_ble_eq_true rfl) d_Se_init_9 (fun H3 locs hPn hDn hSn => ?_)
  replace hP : va_P (dC, dI) clA [(h0, .inr (8, [.null, .long 0, .long 0, .int 0, .ref q1, .null, .int 0, .null])), (q1, .inl (cL, 39, .inr (.inl (fun _ => 0))))] H3 := hPn
  replace hD : va_D A [(h0, .inr (8, [.null, .long 0, .long 0, .int 0, .ref q1, .null, .int 0, .null])), (q1, .inl (cL, 39, .inr (.inl (fun _ => 0))))] := hDn
  replace hS := hSn
  clear hPn hDn hSn
  refine lv_aload_n hx hb d_Se_init_12 rfl (lv_at hl 0 rfl) ?_
  refine lv_bipush (v := 38) hx hb d_Se_init_13 (by decide) ?_
  refine nx_newaI hx hb (ht _ wd_1_55) hK hP hD hS hA 0 rfl (N' := 38) (by decide) (by decide) (Nat.le_of_ble_eq_true rfl) (Nat.le_of_ble_eq_true rfl) (Nat.le_of_ble_eq_true rfl) d_Se_init_15 (fun q4 H5 hPn hDn hSn => ?_)
  replace hP : va_P (dC, dI) clA [(h0, .inr (8, [.null, .long 0, .long 0, .int 0, .ref q1, .null, .int 0, .null])), (q1, .inl (cL, 39, .inr (.inl (fun _ => 0)))), (q4, .inl (cI, 38, .inl (fun _ => 0)))] H5 := hPn
  replace hD : va_D A [(h0, .inr (8, [.null, .long 0, .long 0, .int 0, .ref q1, .null, .int 0, .null])), (q1, .inl (cL, 39, .inr (.inl (fun _ => 0)))), (q4, .inl (cI, 38, .inl (fun _ => 0)))] := hDn
  replace hS := hSn
  clear hPn hDn hSn
  refine W.cs (cells' := 2) (slots' := 77) rfl rfl ?_
  refine va_putF (D := (dC, dI)) (ci := 8) (v := .ref q4) (ty := .array .int) (C := "NetUnfolder$Search") (T := T_Se) (N := 8) hx hb ht in_Se ty_Se ok_Se nm_Se hown hK hP hD hS 0 rfl rfl 5 (by decide) (ht _ wd_1_237) (fun _ h9 => h9) rfl hin rfl (by decide +kernel) rfl rfl (Nat.le_of_ble_eq_true rfl) d_Se_init_17 (fun H6 locs hPn hDn hSn => ?_)
  replace hP : va_P (dC, dI) clA [(h0, .inr (8, [.null, .long 0, .long 0, .int 0, .ref q1, .ref q4, .int 0, .null])), (q1, .inl (cL, 39, .inr (.inl (fun _ => 0)))), (q4, .inl (cI, 38, .inl (fun _ => 0)))] H6 := hPn
  replace hD : va_D A [(h0, .inr (8, [.null, .long 0, .long 0, .int 0, .ref q1, .ref q4, .int 0, .null])), (q1, .inl (cL, 39, .inr (.inl (fun _ => 0)))), (q4, .inl (cI, 38, .inl (fun _ => 0)))] := hDn
  replace hS := hSn
  clear hPn hDn hSn
  refine lv_aload_n hx hb d_Se_init_20 rfl (lv_at hl 0 rfl) ?_
  refine lv_bipush (v := 38) hx hb d_Se_init_21 (by decide) ?_
  refine nx_newaI hx hb (ht _ wd_1_55) hK hP hD hS hA 0 rfl (N' := 38) (by decide) (by decide) (Nat.le_of_ble_eq_true rfl) (Nat.le_of_ble_eq_true rfl) (Nat.le_of_ble_eq_true rfl) d_Se_init_23 (fun q7 H8 hPn hDn hSn => ?_)
  replace hP : va_P (dC, dI) clA [(h0, .inr (8, [.null, .long 0, .long 0, .int 0, .ref q1, .ref q4, .int 0, .null])), (q1, .inl (cL, 39, .inr (.inl (fun _ => 0)))), (q4, .inl (cI, 38, .inl (fun _ => 0))), (q7, .inl (cI, 38, .inl (fun _ => 0)))] H8 := hPn
  replace hD : va_D A [(h0, .inr (8, [.null, .long 0, .long 0, .int 0, .ref q1, .ref q4, .int 0, .null])), (q1, .inl (cL, 39, .inr (.inl (fun _ => 0)))), (q4, .inl (cI, 38, .inl (fun _ => 0))), (q7, .inl (cI, 38, .inl (fun _ => 0)))] := hDn
  replace hS := hSn
  clear hPn hDn hSn
  refine W.cs (cells' := 3) (slots' := 115) rfl rfl ?_
  refine va_putF (D := (dC, dI)) (ci := 8) (v := .ref q7) (ty := .array .int) (C := "NetUnfolder$Search") (T := T_Se) (N := 8) hx hb ht in_Se ty_Se ok_Se nm_Se hown hK hP hD hS 0 rfl rfl 7 (by decide) (ht _ wd_1_239) (fun _ h9 => h9) rfl hin rfl (by decide +kernel) rfl rfl (Nat.le_of_ble_eq_true rfl) d_Se_init_25 (fun H9 locs hPn hDn hSn => ?_)
  replace hP : va_P (dC, dI) clA [(h0, .inr (8, [.null, .long 0, .long 0, .int 0, .ref q1, .ref q4, .int 0, .ref q7])), (q1, .inl (cL, 39, .inr (.inl (fun _ => 0)))), (q4, .inl (cI, 38, .inl (fun _ => 0))), (q7, .inl (cI, 38, .inl (fun _ => 0)))] H9 := hPn
  replace hD : va_D A [(h0, .inr (8, [.null, .long 0, .long 0, .int 0, .ref q1, .ref q4, .int 0, .ref q7])), (q1, .inl (cL, 39, .inr (.inl (fun _ => 0)))), (q4, .inl (cI, 38, .inl (fun _ => 0))), (q7, .inl (cI, 38, .inl (fun _ => 0)))] := hDn
  replace hS := hSn
  clear hPn hDn hSn
  refine lv_aload_n hx hb d_Se_init_28 rfl (lv_at hl 0 rfl) ?_
  refine lv_aload_n hx hb d_Se_init_29 rfl (lv_at hl 1 rfl) ?_
  refine va_putF (D := (dC, dI)) (ci := 8) (v := .ref h1) (ty := .object "NetUnfolder$Clauses") (C := "NetUnfolder$Search") (T := T_Se) (N := 8) hx hb ht in_Se ty_Se ok_Se nm_Se hown hK hP hD hS 0 rfl rfl 0 (by decide) (ht _ wd_1_232) (fun _ h9 => h9) rfl hin rfl (by decide +kernel) rfl rfl (Nat.le_of_ble_eq_true rfl) d_Se_init_30 (fun H10 locs hPn hDn hSn => ?_)
  replace hP : va_P (dC, dI) clA [(h0, .inr (8, [.ref h1, .long 0, .long 0, .int 0, .ref q1, .ref q4, .int 0, .ref q7])), (q1, .inl (cL, 39, .inr (.inl (fun _ => 0)))), (q4, .inl (cI, 38, .inl (fun _ => 0))), (q7, .inl (cI, 38, .inl (fun _ => 0)))] H10 := hPn
  replace hD : va_D A [(h0, .inr (8, [.ref h1, .long 0, .long 0, .int 0, .ref q1, .ref q4, .int 0, .ref q7])), (q1, .inl (cL, 39, .inr (.inl (fun _ => 0)))), (q4, .inl (cI, 38, .inl (fun _ => 0))), (q7, .inl (cI, 38, .inl (fun _ => 0)))] := hDn
  replace hS := hSn
  clear hPn hDn hSn
  have hP9 := hP.sub (ws' := [(h0, .inr (8, [.ref h1, .long 0, .long 0, .int 0, .ref q1, .ref q4, .int 0, .ref q7])), (q1, .inl (cL, 39, .inr (.inl (fun _ => 0)))), (q4, .inl (cI, 38, .inl (fun _ => 0))), (q7, .inl (cI, 38, .inl (fun _ => 0)))]) [0, 1, 2, 3] rfl
  have hD9 := hD.sub (ws' := [(h0, .inr (8, [.ref h1, .long 0, .long 0, .int 0, .ref q1, .ref q4, .int 0, .ref q7])), (q1, .inl (cL, 39, .inr (.inl (fun _ => 0)))), (q4, .inl (cI, 38, .inl (fun _ => 0))), (q7, .inl (cI, 38, .inl (fun _ => 0)))]) [0, 1, 2, 3] (by decide) rfl
  exact W.vret hx hb hr (fun t ht9 hW => ⟨⟨(), rfl, trivial, q1, q4, q7, by rw [ht9]; exact hP9, hD9⟩, hS.F ht9⟩) hS.2.2 d_Se_init_33

set_option maxHeartbeats 4000000 in
set_option maxRecDepth 100000 in
theorem c_Qu_init (l : Launch) (dC : Nat → ClassId) (dI : Nat → Nat → Nat) (cI cL cZ : ClassId) (sz : Nat) (h0 : Nat) (h1 : Nat) (h2 : Nat) (h3 : Nat) : Met l y_Qu_init (Cond.code y_Qu_init prog_6_method_1_code 4 none :: wsA) { frames := 2, cells := 7, slots := 1757, locals := 33 } (va_Pc [.ref h0, .ref h1, .ref h2, .ref h3] (fun U => U.heap.size = sz ∧ va_P (dC, dI) clA [(h0, .inr (6, [.null, .null, .null, .null, .null, .int 0]))] U.heap ∧ va_K (dC, dI) clA [(cI, .int), (cL, .long), (cZ, .boolean)] U ∧ va_D (fun _ => True) [(h0, .inr (6, [.null, .null, .null, .null, .null, .int 0]))] ∧ NwA U)) (va_Qv (fun _ : Unit => True) (fun _ t => ∃ q1 q5 q6 q8 q12 q13 q14 : Nat, va_P (dC, dI) clA [(h0, .inr (6, [.ref h1, .ref h2, .ref h3, .ref q1, .ref q8, .int 0])), (q1, .inr (7, [.ref q5, .ref q6, .int 0, .int 0])), (q5, .inl (cL, 815, .inr (.inl (fun _ => 0)))), (q6, .inl (cL, 815, .inr (.inl (fun _ => 0)))), (q8, .inr (8, [.ref q1, .long 0, .long 0, .int 0, .ref q12, .ref q13, .int 0, .ref q14])), (q12, .inl (cL, 39, .inr (.inl (fun _ => 0)))), (q13, .inl (cI, 38, .inl (fun _ => 0))), (q14, .inl (cI, 38, .inl (fun _ => 0)))] t.heap ∧ va_D (va_A [(h0, .inr (6, [.null, .null, .null, .null, .null, .int 0]))] sz) [(h0, .inr (6, [.ref h1, .ref h2, .ref h3, .ref q1, .ref q8, .int 0])), (q1, .inr (7, [.ref q5, .ref q6, .int 0, .int 0])), (q5, .inl (cL, 815, .inr (.inl (fun _ => 0)))), (q6, .inl (cL, 815, .inr (.inl (fun _ => 0)))), (q8, .inr (8, [.ref q1, .long 0, .long 0, .int 0, .ref q12, .ref q13, .int 0, .ref q14])), (q12, .inl (cL, 39, .inr (.inl (fun _ => 0)))), (q13, .inl (cI, 38, .inl (fun _ => 0))), (q14, .inl (cI, 38, .inl (fun _ => 0)))]) (va_A [(h0, .inr (6, [.null, .null, .null, .null, .null, .int 0]))] sz)) 7 1757 (va_A [(h0, .inr (6, [.null, .null, .null, .null, .null, .int 0]))] sz) := by
  refine Met.ofW (cc := prog_6_method_1_code) (maxL := 4) (ret := none) (by decide) rfl ?_
  intro p e s m args below meth c s₁ B hml hv
  obtain ⟨rfl, hsz, hP, hK, hD0, hN⟩ := hv
  have hx := B.exec
  have hb := B.bytes
  have hr := B.returns
  have ht : ∀ w ∈ wsA, w.before _ s = true := fun w h => atoms_spec (ws := (Cond.code y_Qu_init prog_6_method_1_code 4 none :: wsA)) B.pre w (List.mem_cons_of_mem _ h)
  have hown : s.vm.findClass "NetUnfolder$Question" = some m.cls := findClass_of_methodNamed B.named
  have hlocks := B.notSynchronized
  have hin : meth.name = "<init>" := (name_of_methodNamed B.named B.method).1
  subst hsz
  have hD := hD0.self (sz := s.heap.size)
  generalize hAe : va_A [(h0, .inr (6, [.null, .null, .null, .null, .null, .int 0]))] s.heap.size = A at hD ⊢
  have hA : ∀ q : Nat, s.heap.size ≤ q → A q := fun q h => by rw [← hAe]; exact Or.inr h
  have hS : va_S A s.heap s.heap [] := va_S.rf
  have hl := lv_entry ([.ref h0, .ref h1, .ref h2, .ref h3]) (n := 4) (Nat.le_of_ble_eq_true rfl)
  rw [lg_entry_eq]
  generalize (lg_sl ([.ref h0, .ref h1, .ref h2, .ref h3]) ++ List.replicate (4 - (lg_sl ([.ref h0, .ref h1, .ref h2, .ref h3])).length) Slot.unset).toArray = ls at hl ⊢
  replace hl : lv_has ls 4 [(0, .ref h0), (1, .ref h1), (2, .ref h2), (3, .ref h3)] := hl
  refine lv_aload_n hx hb d_Qu_init_0 rfl (lv_at hl 0 rfl) ?_
  refine W.objInit hx hb hown (ht (.methodLink "NetUnfolder$Question" 3 Lib.objectInit) wd_1_202) (ht (.instanceMethod Lib.objectInit) wd_1_25) (ht (.code Lib.objectInit ⟨#[0xb1]⟩ 1 none) wd_1_26) rfl (by rw [hml]; exact hl.1) rfl d_Qu_init_1 (Nat.le_of_ble_eq_true rfl) (Nat.le_of_ble_eq_true rfl) ?_
  refine W.eq (g2 := F0 m 4 ls []) rfl ?_
  refine lv_aload_n hx hb d_Qu_init_4 rfl (lv_at hl 0 rfl) ?_
  refine va_new (ci := 7) (fs := [.null, .null, .int 0, .int 0]) (C := "NetUnfolder$Clauses") (T := T_Cs) (N := 4) hx hb ht in_Cs ty_Cs ok_Cs hown (ht _ wd_1_203) (ht _ wd_1_204) (ht _ wd_1_8) hK hP hD hS hA rfl (by decide +kernel) (Nat.le_of_ble_eq_true rfl) (Nat.le_of_ble_eq_true rfl) d_Qu_init_5 (fun q1 H2 hPn hDn hSn => ?_)
  replace hP : va_P (dC, dI) clA [(h0, .inr (6, [.null, .null, .null, .null, .null, .int 0])), (q1, .inr (7, [.null, .null, .int 0, .int 0]))] H2 := hPn
  replace hD : va_D A [(h0, .inr (6, [.null, .null, .null, .null, .null, .int 0])), (q1, .inr (7, [.null, .null, .int 0, .int 0]))] := hDn
  replace hS := hSn
  clear hPn hDn hSn
  refine W.cs (cells' := 1) (slots' := 4) rfl rfl ?_
  refine lv_dup hx hb d_Qu_init_8 rfl ?_
  have hPc := hP.sub (ws' := [(q1, .inr (7, [.null, .null, .int 0, .int 0]))]) [1] rfl
  have hDc := hD.sub (ws' := [(q1, .inr (7, [.null, .null, .int 0, .int 0]))]) [1] (by decide) rfl
  have hFc := va_free (wc := [(q1, .inr (7, [.null, .null, .int 0, .int 0]))]) hD hS hA [1] rfl
  refine va_callv (va_runIN (As := []) (rest := [.ref q1, .ref h0]) ⟨hx, hb, hml, hown, ht⟩ (c_Cs_init l dC dI cI cL cZ _ q1 ) ⟨va_cnB 0 ht (goodA wd_1_207) rfl rfl rfl hN.2.2.2.1 (ht _ wd_1_8) (by decide +kernel) ⟨Nat.le_of_ble_eq_true rfl, Nat.le_of_ble_eq_true rfl⟩, rfl, ht _ wd_1_206⟩ ⟨fun a U g mk q => by obtain ⟨q0, q1, qP, qK, qD, qN⟩ := q; exact ⟨q0, q1, qP, va_K.moved (u := U) (U := U.calling g mk a) (Vm.Alike.refl U.vm) qK, qD, NwA.same (u := U) rfl qN⟩, fun U hU hW => ⟨rfl, by rw [hU], by rw [hU]; exact hPc, va_K.moved hW.alike hK, hDc.weaken (fun _ _ _ _ => trivial), NwA.warm hW hN⟩⟩ rfl rfl hl.1 rfl (lv_room (Nat.le_of_ble_eq_true rfl)) d_Qu_init_9 ⟨Nat.le_of_ble_eq_true rfl, Nat.le_of_ble_eq_true rfl⟩) hS (fun q _ h => hFc q h) hFc (fun u t H3 locs ht9 hvm hw4 hB hz1 hk1 hSn => ?_)
  obtain ⟨q5, q6, hP1, hD1⟩ := hB
  rw [ht9] at hP1
  obtain ⟨hPn, hDn⟩ := va_join (wr := [(h0, .inr (6, [.null, .null, .null, .null, .null, .int 0]))]) (w1 := [(q1, .inr (7, [.ref q5, .ref q6, .int 0, .int 0])), (q5, .inl (cL, 815, .inr (.inl (fun _ => 0)))), (q6, .inl (cL, 815, .inr (.inl (fun _ => 0))))]) hP hD [1] [0] rfl rfl (by decide) (by decide) hk1 hFc hP1 hD1
  replace hP : va_P (dC, dI) clA [(h0, .inr (6, [.null, .null, .null, .null, .null, .int 0])), (q1, .inr (7, [.ref q5, .ref q6, .int 0, .int 0])), (q5, .inl (cL, 815, .inr (.inl (fun _ => 0)))), (q6, .inl (cL, 815, .inr (.inl (fun _ => 0))))] H3 := hPn
  replace hD : va_D A [(h0, .inr (6, [.null, .null, .null, .null, .null, .int 0])), (q1, .inr (7, [.ref q5, .ref q6, .int 0, .int 0])), (q5, .inl (cL, 815, .inr (.inl (fun _ => 0)))), (q6, .inl (cL, 815, .inr (.inl (fun _ => 0))))] := hDn
  replace hS := hSn
  clear hPn hDn hSn
  clear hPc hDc hFc hP1 hD1 hk1 hz1 ht9 hvm
  refine W.cs (cells' := 3) (slots' := 1634) rfl rfl ?_
  refine va_putF (D := (dC, dI)) (ci := 6) (v := .ref q1) (ty := .object "NetUnfolder$Clauses") (C := "NetUnfolder$Question") (T := T_Qu) (N := 6) hx hb ht in_Qu ty_Qu ok_Qu nm_Qu hown hK hP hD hS 0 rfl rfl 3 (by decide) (ht _ wd_2_20) (fun _ h9 => h9) rfl hin rfl (by decide +kernel) rfl rfl (Nat.le_of_ble_eq_true rfl) d_Qu_init_12 (fun H7 locs hPn hDn hSn => ?_)
  replace hP : va_P (dC, dI) clA [(h0, .inr (6, [.null, .null, .null, .ref q1, .null, .int 0])), (q1, .inr (7, [.ref q5, .ref q6, .int 0, .int 0])), (q5, .inl (cL, 815, .inr (.inl (fun _ => 0)))), (q6, .inl (cL, 815, .inr (.inl (fun _ => 0))))] H7 := hPn
  replace hD : va_D A [(h0, .inr (6, [.null, .null, .null, .ref q1, .null, .int 0])), (q1, .inr (7, [.ref q5, .ref q6, .int 0, .int 0])), (q5, .inl (cL, 815, .inr (.inl (fun _ => 0)))), (q6, .inl (cL, 815, .inr (.inl (fun _ => 0))))] := hDn
  replace hS := hSn
  clear hPn hDn hSn
  refine lv_aload_n hx hb d_Qu_init_15 rfl (lv_at hl 0 rfl) ?_
  refine va_new (ci := 8) (fs := [.null, .long 0, .long 0, .int 0, .null, .null, .int 0, .null]) (C := "NetUnfolder$Search") (T := T_Se) (N := 8) hx hb ht in_Se ty_Se ok_Se hown (ht _ wd_1_226) (ht _ wd_1_227) (ht _ wd_1_9) hK hP hD hS hA rfl (by decide +kernel) (Nat.le_of_ble_eq_true rfl) (Nat.le_of_ble_eq_true rfl) d_Qu_init_16 (fun q8 H9 hPn hDn hSn => ?_)
  replace hP : va_P (dC, dI) clA [(h0, .inr (6, [.null, .null, .null, .ref q1, .null, .int 0])), (q1, .inr (7, [.ref q5, .ref q6, .int 0, .int 0])), (q5, .inl (cL, 815, .inr (.inl (fun _ => 0)))), (q6, .inl (cL, 815, .inr (.inl (fun _ => 0)))), (q8, .inr (8, [.null, .long 0, .long 0, .int 0, .null, .null, .int 0, .null]))] H9 := hPn
  replace hD : va_D A [(h0, .inr (6, [.null, .null, .null, .ref q1, .null, .int 0])), (q1, .inr (7, [.ref q5, .ref q6, .int 0, .int 0])), (q5, .inl (cL, 815, .inr (.inl (fun _ => 0)))), (q6, .inl (cL, 815, .inr (.inl (fun _ => 0)))), (q8, .inr (8, [.null, .long 0, .long 0, .int 0, .null, .null, .int 0, .null]))] := hDn
  replace hS := hSn
  clear hPn hDn hSn
  refine W.cs (cells' := 4) (slots' := 1642) rfl rfl ?_
  refine lv_dup hx hb d_Qu_init_19 rfl ?_
  refine lv_aload_n hx hb d_Qu_init_20 rfl (lv_at hl 0 rfl) ?_
  refine va_get (D := (dC, dI)) (ci := 6) (v := .ref q1) (C := "NetUnfolder$Question") (T := T_Qu) (N := 6) hx hb ht in_Qu hown hK hP 0 rfl rfl 3 (by decide) (ht _ wd_2_20) (fun _ h9 => h9) rfl d_Qu_init_21 ?_
  have hPc := hP.sub (ws' := [(q8, .inr (8, [.null, .long 0, .long 0, .int 0, .null, .null, .int 0, .null]))]) [4] rfl
  have hDc := hD.sub (ws' := [(q8, .inr (8, [.null, .long 0, .long 0, .int 0, .null, .null, .int 0, .null]))]) [4] (by decide) rfl
  have hFc := va_free (wc := [(q8, .inr (8, [.null, .long 0, .long 0, .int 0, .null, .null, .int 0, .null]))]) hD hS hA [4] rfl
  refine va_callv (va_runI (As := [.ref q1]) (rest := [.ref q8, .ref h0]) ⟨hx, hb, hml, hown, ht⟩ (c_Se_init l dC dI cI cL cZ _ q8 q1 ) (cwI 1 ht (goodA wd_1_230) rfl rfl rfl (ht _ wd_1_9) (ht _ wd_1_228) (ht _ wd_1_229) rfl (by decide +kernel) ⟨Nat.le_of_ble_eq_true rfl, Nat.le_of_ble_eq_true rfl⟩) ⟨fun a U g mk q => by obtain ⟨q0, q1, qP, qK, qD, qN⟩ := q; exact ⟨q0, q1, qP, va_K.moved (u := U) (U := U.calling g mk a) (Vm.Alike.refl U.vm) qK, qD, NwA.same (u := U) rfl qN⟩, fun U hU hW => ⟨rfl, by rw [hU], by rw [hU]; exact hPc, va_K.moved hW.alike hK, hDc.weaken (fun _ _ _ _ => trivial), NwA.warm hW hN⟩⟩ rfl rfl hl.1 rfl (lv_room (Nat.le_of_ble_eq_true rfl)) d_Qu_init_24 ⟨Nat.le_of_ble_eq_true rfl, Nat.le_of_ble_eq_true rfl⟩) hS (fun q _ h => hFc q h) hFc (fun u t H10 locs ht9 hvm hw11 hB hz1 hk1 hSn => ?_)
  obtain ⟨q12, q13, q14, hP1, hD1⟩ := hB
  rw [ht9] at hP1
  obtain ⟨hPn, hDn⟩ := va_join (wr := [(h0, .inr (6, [.null, .null, .null, .ref q1, .null, .int 0])), (q1, .inr (7, [.ref q5, .ref q6, .int 0, .int 0])), (q5, .inl (cL, 815, .inr (.inl (fun _ => 0)))), (q6, .inl (cL, 815, .inr (.inl (fun _ => 0))))]) (w1 := [(q8, .inr (8, [.ref q1, .long 0, .long 0, .int 0, .ref q12, .ref q13, .int 0, .ref q14])), (q12, .inl (cL, 39, .inr (.inl (fun _ => 0)))), (q13, .inl (cI, 38, .inl (fun _ => 0))), (q14, .inl (cI, 38, .inl (fun _ => 0)))]) hP hD [4] [0, 1, 2, 3] rfl rfl (by decide) (by decide) hk1 hFc hP1 hD1
  replace hP : va_P (dC, dI) clA [(h0, .inr (6, [.null, .null, .null, .ref q1, .null, .int 0])), (q1, .inr (7, [.ref q5, .ref q6, .int 0, .int 0])), (q5, .inl (cL, 815, .inr (.inl (fun _ => 0)))), (q6, .inl (cL, 815, .inr (.inl (fun _ => 0)))), (q8, .inr (8, [.ref q1, .long 0, .long 0, .int 0, .ref q12, .ref q13, .int 0, .ref q14])), (q12, .inl (cL, 39, .inr (.inl (fun _ => 0)))), (q13, .inl (cI, 38, .inl (fun _ => 0))), (q14, .inl (cI, 38, .inl (fun _ => 0)))] H10 := hPn
  replace hD : va_D A [(h0, .inr (6, [.null, .null, .null, .ref q1, .null, .int 0])), (q1, .inr (7, [.ref q5, .ref q6, .int 0, .int 0])), (q5, .inl (cL, 815, .inr (.inl (fun _ => 0)))), (q6, .inl (cL, 815, .inr (.inl (fun _ => 0)))), (q8, .inr (8, [.ref q1, .long 0, .long 0, .int 0, .ref q12, .ref q13, .int 0, .ref q14])), (q12, .inl (cL, 39, .inr (.inl (fun _ => 0)))), (q13, .inl (cI, 38, .inl (fun _ => 0))), (q14, .inl (cI, 38, .inl (fun _ => 0)))] := hDn
  replace hS := hSn
  clear hPn hDn hSn
  clear hPc hDc hFc hP1 hD1 hk1 hz1 ht9 hvm
  refine W.cs (cells' := 7) (slots' := 1757) rfl rfl ?_
  refine va_putF (D := (dC, dI)) (ci := 6) (v := .ref q8) (ty := .object "NetUnfolder$Search") (C := "NetUnfolder$Question") (T := T_Qu) (N := 6) hx hb ht in_Qu ty_Qu ok_Qu nm_Qu hown hK hP hD hS 0 rfl rfl 4 (by decide) (ht _ wd_2_21) (fun _ h9 => h9) rfl hin rfl (by decide +kernel) rfl rfl (Nat.le_of_ble_eq_true rfl) d_Qu_init_27 (fun H15 locs hPn hDn hSn => ?_)
  replace hP : va_P (dC, dI) clA [(h0, .inr (6, [.null, .null, .null, .ref q1, .ref q8, .int 0])), (q1, .inr (7, [.ref q5, .ref q6, .int 0, .int 0])), (q5, .inl (cL, 815, .inr (.inl (fun _ => 0)))), (q6, .inl (cL, 815, .inr (.inl (fun _ => 0)))), (q8, .inr (8, [.ref q1, .long 0, .long 0, .int 0, .ref q12, .ref q13, .int 0, .ref q14])), (q12, .inl (cL, 39, .inr (.inl (fun _ => 0)))), (q13, .inl (cI, 38, .inl (fun _ => 0))), (q14, .inl (cI, 38, .inl (fun _ => 0)))] H15 := hPn
  replace hD : va_D A [(h0, .inr (6, [.null, .null, .null, .ref q1, .ref q8, .int 0])), (q1, .inr (7, [.ref q5, .ref q6, .int 0, .int 0])), (q5, .inl (cL, 815, .inr (.inl (fun _ => 0)))), (q6, .inl (cL, 815, .inr (.inl (fun _ => 0)))), (q8, .inr (8, [.ref q1, .long 0, .long 0, .int 0, .ref q12, .ref q13, .int 0, .ref q14])), (q12, .inl (cL, 39, .inr (.inl (fun _ => 0)))), (q13, .inl (cI, 38, .inl (fun _ => 0))), (q14, .inl (cI, 38, .inl (fun _ => 0)))] := hDn
  replace hS := hSn
  clear hPn hDn hSn
  refine lv_aload_n hx hb d_Qu_init_30 rfl (lv_at hl 0 rfl) ?_
  refine lv_aload_n hx hb d_Qu_init_31 rfl (lv_at hl 1 rfl) ?_
  refine va_putF (D := (dC, dI)) (ci := 6) (v := .ref h1) (ty := .object "NetUnfolder$Net") (C := "NetUnfolder$Question") (T := T_Qu) (N := 6) hx hb ht in_Qu ty_Qu ok_Qu nm_Qu hown hK hP hD hS 0 rfl rfl 0 (by decide) (ht _ wd_2_17) (fun _ h9 => h9) rfl hin rfl (by decide +kernel) rfl rfl (Nat.le_of_ble_eq_true rfl) d_Qu_init_32 (fun H16 locs hPn hDn hSn => ?_)
  replace hP : va_P (dC, dI) clA [(h0, .inr (6, [.ref h1, .null, .null, .ref q1, .ref q8, .int 0])), (q1, .inr (7, [.ref q5, .ref q6, .int 0, .int 0])), (q5, .inl (cL, 815, .inr (.inl (fun _ => 0)))), (q6, .inl (cL, 815, .inr (.inl (fun _ => 0)))), (q8, .inr (8, [.ref q1, .long 0, .long 0, .int 0, .ref q12, .ref q13, .int 0, .ref q14])), (q12, .inl (cL, 39, .inr (.inl (fun _ => 0)))), (q13, .inl (cI, 38, .inl (fun _ => 0))), (q14, .inl (cI, 38, .inl (fun _ => 0)))] H16 := hPn
  replace hD : va_D A [(h0, .inr (6, [.ref h1, .null, .null, .ref q1, .ref q8, .int 0])), (q1, .inr (7, [.ref q5, .ref q6, .int 0, .int 0])), (q5, .inl (cL, 815, .inr (.inl (fun _ => 0)))), (q6, .inl (cL, 815, .inr (.inl (fun _ => 0)))), (q8, .inr (8, [.ref q1, .long 0, .long 0, .int 0, .ref q12, .ref q13, .int 0, .ref q14])), (q12, .inl (cL, 39, .inr (.inl (fun _ => 0)))), (q13, .inl (cI, 38, .inl (fun _ => 0))), (q14, .inl (cI, 38, .inl (fun _ => 0)))] := hDn
  replace hS := hSn
  clear hPn hDn hSn
  refine lv_aload_n hx hb d_Qu_init_35 rfl (lv_at hl 0 rfl) ?_
  refine lv_aload_n hx hb d_Qu_init_36 rfl (lv_at hl 2 rfl) ?_
  refine va_putF (D := (dC, dI)) (ci := 6) (v := .ref h2) (ty := .object "NetUnfolder$Prefix") (C := "NetUnfolder$Question") (T := T_Qu) (N := 6) hx hb ht in_Qu ty_Qu ok_Qu nm_Qu hown hK hP hD hS 0 rfl rfl 1 (by decide) (ht _ wd_2_18) (fun _ h9 => h9) rfl hin rfl (by decide +kernel) rfl rfl (Nat.le_of_ble_eq_true rfl) d_Qu_init_37 (fun H17 locs hPn hDn hSn => ?_)
  replace hP : va_P (dC, dI) clA [(h0, .inr (6, [.ref h1, .ref h2, .null, .ref q1, .ref q8, .int 0])), (q1, .inr (7, [.ref q5, .ref q6, .int 0, .int 0])), (q5, .inl (cL, 815, .inr (.inl (fun _ => 0)))), (q6, .inl (cL, 815, .inr (.inl (fun _ => 0)))), (q8, .inr (8, [.ref q1, .long 0, .long 0, .int 0, .ref q12, .ref q13, .int 0, .ref q14])), (q12, .inl (cL, 39, .inr (.inl (fun _ => 0)))), (q13, .inl (cI, 38, .inl (fun _ => 0))), (q14, .inl (cI, 38, .inl (fun _ => 0)))] H17 := hPn
  replace hD : va_D A [(h0, .inr (6, [.ref h1, .ref h2, .null, .ref q1, .ref q8, .int 0])), (q1, .inr (7, [.ref q5, .ref q6, .int 0, .int 0])), (q5, .inl (cL, 815, .inr (.inl (fun _ => 0)))), (q6, .inl (cL, 815, .inr (.inl (fun _ => 0)))), (q8, .inr (8, [.ref q1, .long 0, .long 0, .int 0, .ref q12, .ref q13, .int 0, .ref q14])), (q12, .inl (cL, 39, .inr (.inl (fun _ => 0)))), (q13, .inl (cI, 38, .inl (fun _ => 0))), (q14, .inl (cI, 38, .inl (fun _ => 0)))] := hDn
  replace hS := hSn
  clear hPn hDn hSn
  refine lv_aload_n hx hb d_Qu_init_40 rfl (lv_at hl 0 rfl) ?_
  refine lv_aload_n hx hb d_Qu_init_41 rfl (lv_at hl 3 rfl) ?_
  refine va_putF (D := (dC, dI)) (ci := 6) (v := .ref h3) (ty := .object "NetUnfolder$Way") (C := "NetUnfolder$Question") (T := T_Qu) (N := 6) hx hb ht in_Qu ty_Qu ok_Qu nm_Qu hown hK hP hD hS 0 rfl rfl 2 (by decide) (ht _ wd_2_19) (fun _ h9 => h9) rfl hin rfl (by decide +kernel) rfl rfl (Nat.le_of_ble_eq_true rfl) d_Qu_init_42 (fun H18 locs hPn hDn hSn => ?_)
  replace hP : va_P (dC, dI) clA [(h0, .inr (6, [.ref h1, .ref h2, .ref h3, .ref q1, .ref q8, .int 0])), (q1, .inr (7, [.ref q5, .ref q6, .int 0, .int 0])), (q5, .inl (cL, 815, .inr (.inl (fun _ => 0)))), (q6, .inl (cL, 815, .inr (.inl (fun _ => 0)))), (q8, .inr (8, [.ref q1, .long 0, .long 0, .int 0, .ref q12, .ref q13, .int 0, .ref q14])), (q12, .inl (cL, 39, .inr (.inl (fun _ => 0)))), (q13, .inl (cI, 38, .inl (fun _ => 0))), (q14, .inl (cI, 38, .inl (fun _ => 0)))] H18 := hPn
  replace hD : va_D A [(h0, .inr (6, [.ref h1, .ref h2, .ref h3, .ref q1, .ref q8, .int 0])), (q1, .inr (7, [.ref q5, .ref q6, .int 0, .int 0])), (q5, .inl (cL, 815, .inr (.inl (fun _ => 0)))), (q6, .inl (cL, 815, .inr (.inl (fun _ => 0)))), (q8, .inr (8, [.ref q1, .long 0, .long 0, .int 0, .ref q12, .ref q13, .int 0, .ref q14])), (q12, .inl (cL, 39, .inr (.inl (fun _ => 0)))), (q13, .inl (cI, 38, .inl (fun _ => 0))), (q14, .inl (cI, 38, .inl (fun _ => 0)))] := hDn
  replace hS := hSn
  clear hPn hDn hSn
  have hP9 := hP.sub (ws' := [(h0, .inr (6, [.ref h1, .ref h2, .ref h3, .ref q1, .ref q8, .int 0])), (q1, .inr (7, [.ref q5, .ref q6, .int 0, .int 0])), (q5, .inl (cL, 815, .inr (.inl (fun _ => 0)))), (q6, .inl (cL, 815, .inr (.inl (fun _ => 0)))), (q8, .inr (8, [.ref q1, .long 0, .long 0, .int 0, .ref q12, .ref q13, .int 0, .ref q14])), (q12, .inl (cL, 39, .inr (.inl (fun _ => 0)))), (q13, .inl (cI, 38, .inl (fun _ => 0))), (q14, .inl (cI, 38, .inl (fun _ => 0)))]) [0, 1, 2, 3, 4, 5, 6, 7] rfl
  have hD9 := hD.sub (ws' := [(h0, .inr (6, [.ref h1, .ref h2, .ref h3, .ref q1, .ref q8, .int 0])), (q1, .inr (7, [.ref q5, .ref q6, .int 0, .int 0])), (q5, .inl (cL, 815, .inr (.inl (fun _ => 0)))), (q6, .inl (cL, 815, .inr (.inl (fun _ => 0)))), (q8, .inr (8, [.ref q1, .long 0, .long 0, .int 0, .ref q12, .ref q13, .int 0, .ref q14])), (q12, .inl (cL, 39, .inr (.inl (fun _ => 0)))), (q13, .inl (cI, 38, .inl (fun _ => 0))), (q14, .inl (cI, 38, .inl (fun _ => 0)))]) [0, 1, 2, 3, 4, 5, 6, 7] (by decide) rfl
  exact W.vret hx hb hr (fun t ht9 hW => ⟨⟨(), rfl, trivial, q1, q5, q6, q8, q12, q13, q14, by rw [ht9]; exact hP9, hD9⟩, hS.F ht9⟩) hS.2.2 d_Qu_init_45

set_option maxHeartbeats 4000000 in
set_option maxRecDepth 100000 in
theorem c_NU_init (l : Launch) (dC : Nat → ClassId) (dI : Nat → Nat → Nat) (cI cL cZ : ClassId) (sz : Nat) (h0 : Nat) : Met l y_NU_init (Cond.code y_NU_init prog_1_method_1_code 1 none :: wsA) { frames := 3, cells := 29, slots := 2840, locals := 56 } (va_Pc [.ref h0] (fun U => U.heap.size = sz ∧ va_P (dC, dI) clA [(h0, .inr (0, [.null, .null, .null, .null, .null]))] U.heap ∧ va_K (dC, dI) clA [(cI, .int), (cL, .long), (cZ, .boolean)] U ∧ va_D (fun _ => True) [(h0, .inr (0, [.null, .null, .null, .null, .null]))] ∧ NwA U)) (va_Qv (fun _ : Unit => True) (fun _ t => ∃ q1 q5 q6 q8 q12 q13 q14 q15 q16 q17 q18 q19 q20 q21 q23 q27 q29 q33 q34 q35 q36 q38 q42 q43 q44 q45 q46 q47 q48 : Nat, va_P (dC, dI) clA [(h0, .inr (0, [.ref q1, .ref q8, .ref q23, .ref q29, .ref q38])), (q1, .inr (1, [.ref q5, .ref q6, .int 0, .int 0])), (q5, .inl (cI, 8, .inl (fun _ => 0))), (q6, .inl (cI, 8, .inl (fun _ => 0))), (q8, .inr (2, [.int 0, .ref q12, .ref q13, .ref q14, .ref q15, .ref q16, .int 0, .ref q17, .ref q18, .ref q19, .ref q20, .ref q21, .int 0, .int 0])), (q12, .inl (cI, 60, .inl (fun _ => 0))), (q13, .inl (cI, 60, .inl (fun _ => 0))), (q14, .inl (cI, 60, .inl (fun _ => 0))), (q15, .inl (cL, 60, .inr (.inl (fun _ => 0)))), (q16, .inl (cL, 8, .inr (.inl (fun _ => 0)))), (q17, .inl (cI, 30, .inl (fun _ => 0))), (q18, .inl (cL, 30, .inr (.inl (fun _ => 0)))), (q19, .inl (cI, 30, .inl (fun _ => 0))), (q20, .inl (cI, 30, .inl (fun _ => 0))), (q21, .inl (cL, 30, .inr (.inl (fun _ => 0)))), (q23, .inr (3, [.ref q27, .int (-1)])), (q27, .inl (cI, 31, .inl (fun _ => 0))), (q29, .inr (4, [.ref q1, .ref q8, .ref q23, .ref q33])), (q33, .inr (5, [.ref q8, .int 0, .ref q34, .ref q35, .ref q36])), (q34, .inl (cI, 201, .inl (fun _ => 0))), (q35, .inl (cL, 201, .inr (.inl (fun _ => 0)))), (q36, .inl (cL, 201, .inr (.inl (fun _ => 0)))), (q38, .inr (6, [.ref q1, .ref q8, .ref q23, .ref q42, .ref q45, .int 0])), (q42, .inr (7, [.ref q43, .ref q44, .int 0, .int 0])), (q43, .inl (cL, 815, .inr (.inl (fun _ => 0)))), (q44, .inl (cL, 815, .inr (.inl (fun _ => 0)))), (q45, .inr (8, [.ref q42, .long 0, .long 0, .int 0, .ref q46, .ref q47, .int 0, .ref q48])), (q46, .inl (cL, 39, .inr (.inl (fun _ => 0)))), (q47, .inl (cI, 38, .inl (fun _ => 0))), (q48, .inl (cI, 38, .inl (fun _ => 0)))] t.heap ∧ va_D (va_A [(h0, .inr (0, [.null, .null, .null, .null, .null]))] sz) [(h0, .inr (0, [.ref q1, .ref q8, .ref q23, .ref q29, .ref q38])), (q1, .inr (1, [.ref q5, .ref q6, .int 0, .int 0])), (q5, .inl (cI, 8, .inl (fun _ => 0))), (q6, .inl (cI, 8, .inl (fun _ => 0))), (q8, .inr (2, [.int 0, .ref q12, .ref q13, .ref q14, .ref q15, .ref q16, .int 0, .ref q17, .ref q18, .ref q19, .ref q20, .ref q21, .int 0, .int 0])), (q12, .inl (cI, 60, .inl (fun _ => 0))), (q13, .inl (cI, 60, .inl (fun _ => 0))), (q14, .inl (cI, 60, .inl (fun _ => 0))), (q15, .inl (cL, 60, .inr (.inl (fun _ => 0)))), (q16, .inl (cL, 8, .inr (.inl (fun _ => 0)))), (q17, .inl (cI, 30, .inl (fun _ => 0))), (q18, .inl (cL, 30, .inr (.inl (fun _ => 0)))), (q19, .inl (cI, 30, .inl (fun _ => 0))), (q20, .inl (cI, 30, .inl (fun _ => 0))), (q21, .inl (cL, 30, .inr (.inl (fun _ => 0)))), (q23, .inr (3, [.ref q27, .int (-1)])), (q27, .inl (cI, 31, .inl (fun _ => 0))), (q29, .inr (4, [.ref q1, .ref q8, .ref q23, .ref q33])), (q33, .inr (5, [.ref q8, .int 0, .ref q34, .ref q35, .ref q36])), (q34, .inl (cI, 201, .inl (fun _ => 0))), (q35, .inl (cL, 201, .inr (.inl (fun _ => 0)))), (q36, .inl (cL, 201, .inr (.inl (fun _ => 0)))), (q38, .inr (6, [.ref q1, .ref q8, .ref q23, .ref q42, .ref q45, .int 0])), (q42, .inr (7, [.ref q43, .ref q44, .int 0, .int 0])), (q43, .inl (cL, 815, .inr (.inl (fun _ => 0)))), (q44, .inl (cL, 815, .inr (.inl (fun _ => 0)))), (q45, .inr (8, [.ref q42, .long 0, .long 0, .int 0, .ref q46, .ref q47, .int 0, .ref q48])), (q46, .inl (cL, 39, .inr (.inl (fun _ => 0)))), (q47, .inl (cI, 38, .inl (fun _ => 0))), (q48, .inl (cI, 38, .inl (fun _ => 0)))]) (va_A [(h0, .inr (0, [.null, .null, .null, .null, .null]))] sz)) 29 2840 (va_A [(h0, .inr (0, [.null, .null, .null, .null, .null]))] sz) := by
  refine Met.ofW (cc := prog_1_method_1_code) (maxL := 1) (ret := none) (by decide) rfl ?_
  intro p e s m args below meth c s₁ B hml hv
  obtain ⟨rfl, hsz, hP, hK, hD0, hN⟩ := hv
  have hx := B.exec
  have hb := B.bytes
  have hr := B.returns
  have ht : ∀ w ∈ wsA, w.before _ s = true := fun w h => atoms_spec (ws := (Cond.code y_NU_init prog_1_method_1_code 1 none :: wsA)) B.pre w (List.mem_cons_of_mem _ h)
  have hown : s.vm.findClass "NetUnfolder" = some m.cls := findClass_of_methodNamed B.named
  have hlocks := B.notSynchronized
  have hin : meth.name = "<init>" := (name_of_methodNamed B.named B.method).1
  subst hsz
  have hD := hD0.self (sz := s.heap.size)
  generalize hAe : va_A [(h0, .inr (0, [.null, .null, .null, .null, .null]))] s.heap.size = A at hD ⊢
  have hA : ∀ q : Nat, s.heap.size ≤ q → A q := fun q h => by rw [← hAe]; exact Or.inr h
  have hS : va_S A s.heap s.heap [] := va_S.rf
  have hl := lv_entry ([.ref h0]) (n := 1) (Nat.le_of_ble_eq_true rfl)
  rw [lg_entry_eq]
  generalize (lg_sl ([.ref h0]) ++ List.replicate (1 - (lg_sl ([.ref h0])).length) Slot.unset).toArray = ls at hl ⊢
  replace hl : lv_has ls 1 [(0, .ref h0)] := hl
  refine lv_aload_n hx hb d_NU_init_0 rfl (lv_at hl 0 rfl) ?_
  refine W.objInit hx hb hown (ht (.methodLink "NetUnfolder" 1 Lib.objectInit) wd_1_24) (ht (.instanceMethod Lib.objectInit) wd_1_25) (ht (.code Lib.objectInit ⟨#[0xb1]⟩ 1 none) wd_1_26) rfl (by rw [hml]; exact hl.1) rfl d_NU_init_1 (Nat.le_of_ble_eq_true rfl) (Nat.le_of_ble_eq_true rfl) ?_
  refine W.eq (g2 := F0 m 4 ls []) rfl ?_
  refine lv_aload_n hx hb d_NU_init_4 rfl (lv_at hl 0 rfl) ?_
  refine va_new (ci := 1) (fs := [.null, .null, .int 0, .int 0]) (C := "NetUnfolder$Net") (T := T_Ne) (N := 4) hx hb ht in_Ne ty_Ne ok_Ne hown (ht _ wd_1_27) (ht _ wd_1_28) (ht _ wd_1_2) hK hP hD hS hA rfl (by decide +kernel) (Nat.le_of_ble_eq_true rfl) (Nat.le_of_ble_eq_true rfl) d_NU_init_5 (fun q1 H2 hPn hDn hSn => ?_)
  replace hP : va_P (dC, dI) clA [(h0, .inr (0, [.null, .null, .null, .null, .null])), (q1, .inr (1, [.null, .null, .int 0, .int 0]))] H2 := hPn
  replace hD : va_D A [(h0, .inr (0, [.null, .null, .null, .null, .null])), (q1, .inr (1, [.null, .null, .int 0, .int 0]))] := hDn
  replace hS := hSn
  clear hPn hDn hSn
  refine W.cs (cells' := 1) (slots' := 4) rfl rfl ?_
  refine lv_dup hx hb d_NU_init_8 rfl ?_
  have hPc := hP.sub (ws' := [(q1, .inr (1, [.null, .null, .int 0, .int 0]))]) [1] rfl
  have hDc := hD.sub (ws' := [(q1, .inr (1, [.null, .null, .int 0, .int 0]))]) [1] (by decide) rfl
  have hFc := va_free (wc := [(q1, .inr (1, [.null, .null, .int 0, .int 0]))]) hD hS hA [1] rfl
  refine va_callv (va_runIN (As := []) (rest := [.ref q1, .ref h0]) ⟨hx, hb, hml, hown, ht⟩ (c_Ne_init l dC dI cI cL cZ _ q1 ) ⟨va_cnB 0 ht (goodA wd_1_31) rfl rfl rfl hN.1 (ht _ wd_1_2) (by decide +kernel) ⟨Nat.le_of_ble_eq_true rfl, Nat.le_of_ble_eq_true rfl⟩, rfl, ht _ wd_1_30⟩ ⟨fun a U g mk q => by obtain ⟨q0, q1, qP, qK, qD, qN⟩ := q; exact ⟨q0, q1, qP, va_K.moved (u := U) (U := U.calling g mk a) (Vm.Alike.refl U.vm) qK, qD, NwA.same (u := U) rfl qN⟩, fun U hU hW => ⟨rfl, by rw [hU], by rw [hU]; exact hPc, va_K.moved hW.alike hK, hDc.weaken (fun _ _ _ _ => trivial), NwA.warm hW hN⟩⟩ rfl rfl hl.1 rfl (lv_room (Nat.le_of_ble_eq_true rfl)) d_NU_init_9 ⟨Nat.le_of_ble_eq_true rfl, Nat.le_of_ble_eq_true rfl⟩) hS (fun q _ h => hFc q h) hFc (fun u t H3 locs ht9 hvm hw4 hB hz1 hk1 hSn => ?_)
  obtain ⟨q5, q6, hP1, hD1⟩ := hB
  rw [ht9] at hP1
  obtain ⟨hPn, hDn⟩ := va_join (wr := [(h0, .inr (0, [.null, .null, .null, .null, .null]))]) (w1 := [(q1, .inr (1, [.ref q5, .ref q6, .int 0, .int 0])), (q5, .inl (cI, 8, .inl (fun _ => 0))), (q6, .inl (cI, 8, .inl (fun _ => 0)))]) hP hD [1] [0] rfl rfl (by decide) (by decide) hk1 hFc hP1 hD1
  replace hP : va_P (dC, dI) clA [(h0, .inr (0, [.null, .null, .null, .null, .null])), (q1, .inr (1, [.ref q5, .ref q6, .int 0, .int 0])), (q5, .inl (cI, 8, .inl (fun _ => 0))), (q6, .inl (cI, 8, .inl (fun _ => 0)))] H3 := hPn
  replace hD : va_D A [(h0, .inr (0, [.null, .null, .null, .null, .null])), (q1, .inr (1, [.ref q5, .ref q6, .int 0, .int 0])), (q5, .inl (cI, 8, .inl (fun _ => 0))), (q6, .inl (cI, 8, .inl (fun _ => 0)))] := hDn
  replace hS := hSn
  clear hPn hDn hSn
  clear hPc hDc hFc hP1 hD1 hk1 hz1 ht9 hvm
  refine W.cs (cells' := 3) (slots' := 20) rfl rfl ?_
  refine va_putF (D := (dC, dI)) (ci := 0) (v := .ref q1) (ty := .object "NetUnfolder$Net") (C := "NetUnfolder") (T := T_NU) (N := 5) hx hb ht in_NU ty_NU ok_NU nm_NU hown hK hP hD hS 0 rfl rfl 0 (by decide) (ht _ wd_2_36) (fun _ h9 => h9) rfl hin rfl (by decide +kernel) rfl rfl (Nat.le_of_ble_eq_true rfl) d_NU_init_12 (fun H7 locs hPn hDn hSn => ?_)
  replace hP : va_P (dC, dI) clA [(h0, .inr (0, [.ref q1, .null, .null, .null, .null])), (q1, .inr (1, [.ref q5, .ref q6, .int 0, .int 0])), (q5, .inl (cI, 8, .inl (fun _ => 0))), (q6, .inl (cI, 8, .inl (fun _ => 0)))] H7 := hPn
  replace hD : va_D A [(h0, .inr (0, [.ref q1, .null, .null, .null, .null])), (q1, .inr (1, [.ref q5, .ref q6, .int 0, .int 0])), (q5, .inl (cI, 8, .inl (fun _ => 0))), (q6, .inl (cI, 8, .inl (fun _ => 0)))] := hDn
  replace hS := hSn
  clear hPn hDn hSn
  refine lv_aload_n hx hb d_NU_init_15 rfl (lv_at hl 0 rfl) ?_
  refine va_new (ci := 2) (fs := [.int 0, .null, .null, .null, .null, .null, .int 0, .null, .null, .null, .null, .null, .int 0, .int 0]) (C := "NetUnfolder$Prefix") (T := T_Pf) (N := 14) hx hb ht in_Pf ty_Pf ok_Pf hown (ht _ wd_1_56) (ht _ wd_1_57) (ht _ wd_1_3) hK hP hD hS hA rfl (by decide +kernel) (Nat.le_of_ble_eq_true rfl) (Nat.le_of_ble_eq_true rfl) d_NU_init_16 (fun q8 H9 hPn hDn hSn => ?_)
  replace hP : va_P (dC, dI) clA [(h0, .inr (0, [.ref q1, .null, .null, .null, .null])), (q1, .inr (1, [.ref q5, .ref q6, .int 0, .int 0])), (q5, .inl (cI, 8, .inl (fun _ => 0))), (q6, .inl (cI, 8, .inl (fun _ => 0))), (q8, .inr (2, [.int 0, .null, .null, .null, .null, .null, .int 0, .null, .null, .null, .null, .null, .int 0, .int 0]))] H9 := hPn
  replace hD : va_D A [(h0, .inr (0, [.ref q1, .null, .null, .null, .null])), (q1, .inr (1, [.ref q5, .ref q6, .int 0, .int 0])), (q5, .inl (cI, 8, .inl (fun _ => 0))), (q6, .inl (cI, 8, .inl (fun _ => 0))), (q8, .inr (2, [.int 0, .null, .null, .null, .null, .null, .int 0, .null, .null, .null, .null, .null, .int 0, .int 0]))] := hDn
  replace hS := hSn
  clear hPn hDn hSn
  refine W.cs (cells' := 4) (slots' := 34) rfl rfl ?_
  refine lv_dup hx hb d_NU_init_19 rfl ?_
  have hPc := hP.sub (ws' := [(q8, .inr (2, [.int 0, .null, .null, .null, .null, .null, .int 0, .null, .null, .null, .null, .null, .int 0, .int 0]))]) [4] rfl
  have hDc := hD.sub (ws' := [(q8, .inr (2, [.int 0, .null, .null, .null, .null, .null, .int 0, .null, .null, .null, .null, .null, .int 0, .int 0]))]) [4] (by decide) rfl
  have hFc := va_free (wc := [(q8, .inr (2, [.int 0, .null, .null, .null, .null, .null, .int 0, .null, .null, .null, .null, .null, .int 0, .int 0]))]) hD hS hA [4] rfl
  refine va_callv (va_runIN (As := []) (rest := [.ref q8, .ref h0]) ⟨hx, hb, hml, hown, ht⟩ (c_Pf_init l dC dI cI cL cZ _ q8 ) ⟨va_cnB 0 ht (goodA wd_1_60) rfl rfl rfl hN.2.1 (ht _ wd_1_3) (by decide +kernel) ⟨Nat.le_of_ble_eq_true rfl, Nat.le_of_ble_eq_true rfl⟩, rfl, ht _ wd_1_59⟩ ⟨fun a U g mk q => by obtain ⟨q0, q1, qP, qK, qD, qN⟩ := q; exact ⟨q0, q1, qP, va_K.moved (u := U) (U := U.calling g mk a) (Vm.Alike.refl U.vm) qK, qD, NwA.same (u := U) rfl qN⟩, fun U hU hW => ⟨rfl, by rw [hU], by rw [hU]; exact hPc, va_K.moved hW.alike hK, hDc.weaken (fun _ _ _ _ => trivial), NwA.warm hW hN⟩⟩ rfl rfl hl.1 rfl (lv_room (Nat.le_of_ble_eq_true rfl)) d_NU_init_20 ⟨Nat.le_of_ble_eq_true rfl, Nat.le_of_ble_eq_true rfl⟩) hS (fun q _ h => hFc q h) hFc (fun u t H10 locs ht9 hvm hw11 hB hz1 hk1 hSn => ?_)
  obtain ⟨q12, q13, q14, q15, q16, q17, q18, q19, q20, q21, hP1, hD1⟩ := hB
  rw [ht9] at hP1
  obtain ⟨hPn, hDn⟩ := va_join (wr := [(h0, .inr (0, [.ref q1, .null, .null, .null, .null])), (q1, .inr (1, [.ref q5, .ref q6, .int 0, .int 0])), (q5, .inl (cI, 8, .inl (fun _ => 0))), (q6, .inl (cI, 8, .inl (fun _ => 0)))]) (w1 := [(q8, .inr (2, [.int 0, .ref q12, .ref q13, .ref q14, .ref q15, .ref q16, .int 0, .ref q17, .ref q18, .ref q19, .ref q20, .ref q21, .int 0, .int 0])), (q12, .inl (cI, 60, .inl (fun _ => 0))), (q13, .inl (cI, 60, .inl (fun _ => 0))), (q14, .inl (cI, 60, .inl (fun _ => 0))), (q15, .inl (cL, 60, .inr (.inl (fun _ => 0)))), (q16, .inl (cL, 8, .inr (.inl (fun _ => 0)))), (q17, .inl (cI, 30, .inl (fun _ => 0))), (q18, .inl (cL, 30, .inr (.inl (fun _ => 0)))), (q19, .inl (cI, 30, .inl (fun _ => 0))), (q20, .inl (cI, 30, .inl (fun _ => 0))), (q21, .inl (cL, 30, .inr (.inl (fun _ => 0))))]) hP hD [4] [0, 1, 2, 3] rfl rfl (by decide) (by decide) hk1 hFc hP1 hD1
  replace hP : va_P (dC, dI) clA [(h0, .inr (0, [.ref q1, .null, .null, .null, .null])), (q1, .inr (1, [.ref q5, .ref q6, .int 0, .int 0])), (q5, .inl (cI, 8, .inl (fun _ => 0))), (q6, .inl (cI, 8, .inl (fun _ => 0))), (q8, .inr (2, [.int 0, .ref q12, .ref q13, .ref q14, .ref q15, .ref q16, .int 0, .ref q17, .ref q18, .ref q19, .ref q20, .ref q21, .int 0, .int 0])), (q12, .inl (cI, 60, .inl (fun _ => 0))), (q13, .inl (cI, 60, .inl (fun _ => 0))), (q14, .inl (cI, 60, .inl (fun _ => 0))), (q15, .inl (cL, 60, .inr (.inl (fun _ => 0)))), (q16, .inl (cL, 8, .inr (.inl (fun _ => 0)))), (q17, .inl (cI, 30, .inl (fun _ => 0))), (q18, .inl (cL, 30, .inr (.inl (fun _ => 0)))), (q19, .inl (cI, 30, .inl (fun _ => 0))), (q20, .inl (cI, 30, .inl (fun _ => 0))), (q21, .inl (cL, 30, .inr (.inl (fun _ => 0))))] H10 := hPn
  replace hD : va_D A [(h0, .inr (0, [.ref q1, .null, .null, .null, .null])), (q1, .inr (1, [.ref q5, .ref q6, .int 0, .int 0])), (q5, .inl (cI, 8, .inl (fun _ => 0))), (q6, .inl (cI, 8, .inl (fun _ => 0))), (q8, .inr (2, [.int 0, .ref q12, .ref q13, .ref q14, .ref q15, .ref q16, .int 0, .ref q17, .ref q18, .ref q19, .ref q20, .ref q21, .int 0, .int 0])), (q12, .inl (cI, 60, .inl (fun _ => 0))), (q13, .inl (cI, 60, .inl (fun _ => 0))), (q14, .inl (cI, 60, .inl (fun _ => 0))), (q15, .inl (cL, 60, .inr (.inl (fun _ => 0)))), (q16, .inl (cL, 8, .inr (.inl (fun _ => 0)))), (q17, .inl (cI, 30, .inl (fun _ => 0))), (q18, .inl (cL, 30, .inr (.inl (fun _ => 0)))), (q19, .inl (cI, 30, .inl (fun _ => 0))), (q20, .inl (cI, 30, .inl (fun _ => 0))), (q21, .inl (cL, 30, .inr (.inl (fun _ => 0))))] := hDn
  replace hS := hSn
  clear hPn hDn hSn
  clear hPc hDc hFc hP1 hD1 hk1 hz1 ht9 hvm
  refine W.cs (cells' := 14) (slots' := 432) rfl rfl ?_
  refine va_putF (D := (dC, dI)) (ci := 0) (v := .ref q8) (ty := .object "NetUnfolder$Prefix") (C := "NetUnfolder") (T := T_NU) (N := 5) hx hb ht in_NU ty_NU ok_NU nm_NU hown hK hP hD hS 0 rfl rfl 1 (by decide) (ht _ wd_2_37) (fun _ h9 => h9) rfl hin rfl (by decide +kernel) rfl rfl (Nat.le_of_ble_eq_true rfl) d_NU_init_23 (fun H22 locs hPn hDn hSn => ?_)
  replace hP : va_P (dC, dI) clA [(h0, .inr (0, [.ref q1, .ref q8, .null, .null, .null])), (q1, .inr (1, [.ref q5, .ref q6, .int 0, .int 0])), (q5, .inl (cI, 8, .inl (fun _ => 0))), (q6, .inl (cI, 8, .inl (fun _ => 0))), (q8, .inr (2, [.int 0, .ref q12, .ref q13, .ref q14, .ref q15, .ref q16, .int 0, .ref q17, .ref q18, .ref q19, .ref q20, .ref q21, .int 0, .int 0])), (q12, .inl (cI, 60, .inl (fun _ => 0))), (q13, .inl (cI, 60, .inl (fun _ => 0))), (q14, .inl (cI, 60, .inl (fun _ => 0))), (q15, .inl (cL, 60, .inr (.inl (fun _ => 0)))), (q16, .inl (cL, 8, .inr (.inl (fun _ => 0)))), (q17, .inl (cI, 30, .inl (fun _ => 0))), (q18, .inl (cL, 30, .inr (.inl (fun _ => 0)))), (q19, .inl (cI, 30, .inl (fun _ => 0))), (q20, .inl (cI, 30, .inl (fun _ => 0))), (q21, .inl (cL, 30, .inr (.inl (fun _ => 0))))] H22 := hPn
  replace hD : va_D A [(h0, .inr (0, [.ref q1, .ref q8, .null, .null, .null])), (q1, .inr (1, [.ref q5, .ref q6, .int 0, .int 0])), (q5, .inl (cI, 8, .inl (fun _ => 0))), (q6, .inl (cI, 8, .inl (fun _ => 0))), (q8, .inr (2, [.int 0, .ref q12, .ref q13, .ref q14, .ref q15, .ref q16, .int 0, .ref q17, .ref q18, .ref q19, .ref q20, .ref q21, .int 0, .int 0])), (q12, .inl (cI, 60, .inl (fun _ => 0))), (q13, .inl (cI, 60, .inl (fun _ => 0))), (q14, .inl (cI, 60, .inl (fun _ => 0))), (q15, .inl (cL, 60, .inr (.inl (fun _ => 0)))), (q16, .inl (cL, 8, .inr (.inl (fun _ => 0)))), (q17, .inl (cI, 30, .inl (fun _ => 0))), (q18, .inl (cL, 30, .inr (.inl (fun _ => 0)))), (q19, .inl (cI, 30, .inl (fun _ => 0))), (q20, .inl (cI, 30, .inl (fun _ => 0))), (q21, .inl (cL, 30, .inr (.inl (fun _ => 0))))] := hDn
  replace hS := hSn
  clear hPn hDn hSn
  refine lv_aload_n hx hb d_NU_init_26 rfl (lv_at hl 0 rfl) ?_
  refine va_new (ci := 3) (fs := [.null, .int 0]) (C := "NetUnfolder$Way") (T := T_Wa) (N := 2) hx hb ht in_Wa ty_Wa ok_Wa hown (ht _ wd_1_137) (ht _ wd_1_138) (ht _ wd_1_4) hK hP hD hS hA rfl (by decide +kernel) (Nat.le_of_ble_eq_true rfl) (Nat.le_of_ble_eq_true rfl) d_NU_init_27 (fun q23 H24 hPn hDn hSn => ?_)
  replace hP : va_P (dC, dI) clA [(h0, .inr (0, [.ref q1, .ref q8, .null, .null, .null])), (q1, .inr (1, [.ref q5, .ref q6, .int 0, .int 0])), (q5, .inl (cI, 8, .inl (fun _ => 0))), (q6, .inl (cI, 8, .inl (fun _ => 0))), (q8, .inr (2, [.int 0, .ref q12, .ref q13, .ref q14, .ref q15, .ref q16, .int 0, .ref q17, .ref q18, .ref q19, .ref q20, .ref q21, .int 0, .int 0])), (q12, .inl (cI, 60, .inl (fun _ => 0))), (q13, .inl (cI, 60, .inl (fun _ => 0))), (q14, .inl (cI, 60, .inl (fun _ => 0))), (q15, .inl (cL, 60, .inr (.inl (fun _ => 0)))), (q16, .inl (cL, 8, .inr (.inl (fun _ => 0)))), (q17, .inl (cI, 30, .inl (fun _ => 0))), (q18, .inl (cL, 30, .inr (.inl (fun _ => 0)))), (q19, .inl (cI, 30, .inl (fun _ => 0))), (q20, .inl (cI, 30, .inl (fun _ => 0))), (q21, .inl (cL, 30, .inr (.inl (fun _ => 0)))), (q23, .inr (3, [.null, .int 0]))] H24 := hPn
  replace hD : va_D A [(h0, .inr (0, [.ref q1, .ref q8, .null, .null, .null])), (q1, .inr (1, [.ref q5, .ref q6, .int 0, .int 0])), (q5, .inl (cI, 8, .inl (fun _ => 0))), (q6, .inl (cI, 8, .inl (fun _ => 0))), (q8, .inr (2, [.int 0, .ref q12, .ref q13, .ref q14, .ref q15, .ref q16, .int 0, .ref q17, .ref q18, .ref q19, .ref q20, .ref q21, .int 0, .int 0])), (q12, .inl (cI, 60, .inl (fun _ => 0))), (q13, .inl (cI, 60, .inl (fun _ => 0))), (q14, .inl (cI, 60, .inl (fun _ => 0))), (q15, .inl (cL, 60, .inr (.inl (fun _ => 0)))), (q16, .inl (cL, 8, .inr (.inl (fun _ => 0)))), (q17, .inl (cI, 30, .inl (fun _ => 0))), (q18, .inl (cL, 30, .inr (.inl (fun _ => 0)))), (q19, .inl (cI, 30, .inl (fun _ => 0))), (q20, .inl (cI, 30, .inl (fun _ => 0))), (q21, .inl (cL, 30, .inr (.inl (fun _ => 0)))), (q23, .inr (3, [.null, .int 0]))] := hDn
  replace hS := hSn
  clear hPn hDn hSn
  refine W.cs (cells' := 15) (slots' := 434) rfl rfl ?_
  refine lv_dup hx hb d_NU_init_30 rfl ?_
  have hPc := hP.sub (ws' := [(q23, .inr (3, [.null, .int 0]))]) [15] rfl
  have hDc := hD.sub (ws' := [(q23, .inr (3, [.null, .int 0]))]) [15] (by decide) rfl
  have hFc := va_free (wc := [(q23, .inr (3, [.null, .int 0]))]) hD hS hA [15] rfl
  refine va_callv (va_runIN (As := []) (rest := [.ref q23, .ref h0]) ⟨hx, hb, hml, hown, ht⟩ (c_Wa_init l dC dI cI cL cZ _ q23 ) ⟨va_cnB 0 ht (goodA wd_1_141) rfl rfl rfl hN.2.2.1 (ht _ wd_1_4) (by decide +kernel) ⟨Nat.le_of_ble_eq_true rfl, Nat.le_of_ble_eq_true rfl⟩, rfl, ht _ wd_1_140⟩ ⟨fun a U g mk q => by obtain ⟨q0, q1, qP, qK, qD, qN⟩ := q; exact ⟨q0, q1, qP, va_K.moved (u := U) (U := U.calling g mk a) (Vm.Alike.refl U.vm) qK, qD, NwA.same (u := U) rfl qN⟩, fun U hU hW => ⟨rfl, by rw [hU], by rw [hU]; exact hPc, va_K.moved hW.alike hK, hDc.weaken (fun _ _ _ _ => trivial), NwA.warm hW hN⟩⟩ rfl rfl hl.1 rfl (lv_room (Nat.le_of_ble_eq_true rfl)) d_NU_init_31 ⟨Nat.le_of_ble_eq_true rfl, Nat.le_of_ble_eq_true rfl⟩) hS (fun q _ h => hFc q h) hFc (fun u t H25 locs ht9 hvm hw26 hB hz1 hk1 hSn => ?_)
  obtain ⟨q27, hP1, hD1⟩ := hB
  rw [ht9] at hP1
  obtain ⟨hPn, hDn⟩ := va_join (wr := [(h0, .inr (0, [.ref q1, .ref q8, .null, .null, .null])), (q1, .inr (1, [.ref q5, .ref q6, .int 0, .int 0])), (q5, .inl (cI, 8, .inl (fun _ => 0))), (q6, .inl (cI, 8, .inl (fun _ => 0))), (q8, .inr (2, [.int 0, .ref q12, .ref q13, .ref q14, .ref q15, .ref q16, .int 0, .ref q17, .ref q18, .ref q19, .ref q20, .ref q21, .int 0, .int 0])), (q12, .inl (cI, 60, .inl (fun _ => 0))), (q13, .inl (cI, 60, .inl (fun _ => 0))), (q14, .inl (cI, 60, .inl (fun _ => 0))), (q15, .inl (cL, 60, .inr (.inl (fun _ => 0)))), (q16, .inl (cL, 8, .inr (.inl (fun _ => 0)))), (q17, .inl (cI, 30, .inl (fun _ => 0))), (q18, .inl (cL, 30, .inr (.inl (fun _ => 0)))), (q19, .inl (cI, 30, .inl (fun _ => 0))), (q20, .inl (cI, 30, .inl (fun _ => 0))), (q21, .inl (cL, 30, .inr (.inl (fun _ => 0))))]) (w1 := [(q23, .inr (3, [.ref q27, .int (-1)])), (q27, .inl (cI, 31, .inl (fun _ => 0)))]) hP hD [15] [0, 1, 2, 3, 4, 5, 6, 7, 8, 9, 10, 11, 12, 13, 14] rfl rfl (by decide) (by decide) hk1 hFc hP1 hD1
  replace hP : va_P (dC, dI) clA [(h0, .inr (0, [.ref q1, .ref q8, .null, .null, .null])), (q1, .inr (1, [.ref q5, .ref q6, .int 0, .int 0])), (q5, .inl (cI, 8, .inl (fun _ => 0))), (q6, .inl (cI, 8, .inl (fun _ => 0))), (q8, .inr (2, [.int 0, .ref q12, .ref q13, .ref q14, .ref q15, .ref q16, .int 0, .ref q17, .ref q18, .ref q19, .ref q20, .ref q21, .int 0, .int 0])), (q12, .inl (cI, 60, .inl (fun _ => 0))), (q13, .inl (cI, 60, .inl (fun _ => 0))), (q14, .inl (cI, 60, .inl (fun _ => 0))), (q15, .inl (cL, 60, .inr (.inl (fun _ => 0)))), (q16, .inl (cL, 8, .inr (.inl (fun _ => 0)))), (q17, .inl (cI, 30, .inl (fun _ => 0))), (q18, .inl (cL, 30, .inr (.inl (fun _ => 0)))), (q19, .inl (cI, 30, .inl (fun _ => 0))), (q20, .inl (cI, 30, .inl (fun _ => 0))), (q21, .inl (cL, 30, .inr (.inl (fun _ => 0)))), (q23, .inr (3, [.ref q27, .int (-1)])), (q27, .inl (cI, 31, .inl (fun _ => 0)))] H25 := hPn
  replace hD : va_D A [(h0, .inr (0, [.ref q1, .ref q8, .null, .null, .null])), (q1, .inr (1, [.ref q5, .ref q6, .int 0, .int 0])), (q5, .inl (cI, 8, .inl (fun _ => 0))), (q6, .inl (cI, 8, .inl (fun _ => 0))), (q8, .inr (2, [.int 0, .ref q12, .ref q13, .ref q14, .ref q15, .ref q16, .int 0, .ref q17, .ref q18, .ref q19, .ref q20, .ref q21, .int 0, .int 0])), (q12, .inl (cI, 60, .inl (fun _ => 0))), (q13, .inl (cI, 60, .inl (fun _ => 0))), (q14, .inl (cI, 60, .inl (fun _ => 0))), (q15, .inl (cL, 60, .inr (.inl (fun _ => 0)))), (q16, .inl (cL, 8, .inr (.inl (fun _ => 0)))), (q17, .inl (cI, 30, .inl (fun _ => 0))), (q18, .inl (cL, 30, .inr (.inl (fun _ => 0)))), (q19, .inl (cI, 30, .inl (fun _ => 0))), (q20, .inl (cI, 30, .inl (fun _ => 0))), (q21, .inl (cL, 30, .inr (.inl (fun _ => 0)))), (q23, .inr (3, [.ref q27, .int (-1)])), (q27, .inl (cI, 31, .inl (fun _ => 0)))] := hDn
  replace hS := hSn
  clear hPn hDn hSn
  clear hPc hDc hFc hP1 hD1 hk1 hz1 ht9 hvm
  refine W.cs (cells' := 16) (slots' := 465) rfl rfl ?_
  refine va_putF (D := (dC, dI)) (ci := 0) (v := .ref q23) (ty := .object "NetUnfolder$Way") (C := "NetUnfolder") (T := T_NU) (N := 5) hx hb ht in_NU ty_NU ok_NU nm_NU hown hK hP hD hS 0 rfl rfl 2 (by decide) (ht _ wd_2_38) (fun _ h9 => h9) rfl hin rfl (by decide +kernel) rfl rfl (Nat.le_of_ble_eq_true rfl) d_NU_init_34 (fun H28 locs hPn hDn hSn => ?_)
  replace hP : va_P (dC, dI) clA [(h0, .inr (0, [.ref q1, .ref q8, .ref q23, .null, .null])), (q1, .inr (1, [.ref q5, .ref q6, .int 0, .int 0])), (q5, .inl (cI, 8, .inl (fun _ => 0))), (q6, .inl (cI, 8, .inl (fun _ => 0))), (q8, .inr (2, [.int 0, .ref q12, .ref q13, .ref q14, .ref q15, .ref q16, .int 0, .ref q17, .ref q18, .ref q19, .ref q20, .ref q21, .int 0, .int 0])), (q12, .inl (cI, 60, .inl (fun _ => 0))), (q13, .inl (cI, 60, .inl (fun _ => 0))), (q14, .inl (cI, 60, .inl (fun _ => 0))), (q15, .inl (cL, 60, .inr (.inl (fun _ => 0)))), (q16, .inl (cL, 8, .inr (.inl (fun _ => 0)))), (q17, .inl (cI, 30, .inl (fun _ => 0))), (q18, .inl (cL, 30, .inr (.inl (fun _ => 0)))), (q19, .inl (cI, 30, .inl (fun _ => 0))), (q20, .inl (cI, 30, .inl (fun _ => 0))), (q21, .inl (cL, 30, .inr (.inl (fun _ => 0)))), (q23, .inr (3, [.ref q27, .int (-1)])), (q27, .inl (cI, 31, .inl (fun _ => 0)))] H28 := hPn
  replace hD : va_D A [(h0, .inr (0, [.ref q1, .ref q8, .ref q23, .null, .null])), (q1, .inr (1, [.ref q5, .ref q6, .int 0, .int 0])), (q5, .inl (cI, 8, .inl (fun _ => 0))), (q6, .inl (cI, 8, .inl (fun _ => 0))), (q8, .inr (2, [.int 0, .ref q12, .ref q13, .ref q14, .ref q15, .ref q16, .int 0, .ref q17, .ref q18, .ref q19, .ref q20, .ref q21, .int 0, .int 0])), (q12, .inl (cI, 60, .inl (fun _ => 0))), (q13, .inl (cI, 60, .inl (fun _ => 0))), (q14, .inl (cI, 60, .inl (fun _ => 0))), (q15, .inl (cL, 60, .inr (.inl (fun _ => 0)))), (q16, .inl (cL, 8, .inr (.inl (fun _ => 0)))), (q17, .inl (cI, 30, .inl (fun _ => 0))), (q18, .inl (cL, 30, .inr (.inl (fun _ => 0)))), (q19, .inl (cI, 30, .inl (fun _ => 0))), (q20, .inl (cI, 30, .inl (fun _ => 0))), (q21, .inl (cL, 30, .inr (.inl (fun _ => 0)))), (q23, .inr (3, [.ref q27, .int (-1)])), (q27, .inl (cI, 31, .inl (fun _ => 0)))] := hDn
  replace hS := hSn
  clear hPn hDn hSn
  refine lv_aload_n hx hb d_NU_init_37 rfl (lv_at hl 0 rfl) ?_
  refine va_new (ci := 4) (fs := [.null, .null, .null, .null]) (C := "NetUnfolder$Unfolding") (T := T_Un) (N := 4) hx hb ht in_Un ty_Un ok_Un hown (ht _ wd_1_152) (ht _ wd_1_153) (ht _ wd_1_5) hK hP hD hS hA rfl (by decide +kernel) (Nat.le_of_ble_eq_true rfl) (Nat.le_of_ble_eq_true rfl) d_NU_init_38 (fun q29 H30 hPn hDn hSn => ?_)
  replace hP : va_P (dC, dI) clA [(h0, .inr (0, [.ref q1, .ref q8, .ref q23, .null, .null])), (q1, .inr (1, [.ref q5, .ref q6, .int 0, .int 0])), (q5, .inl (cI, 8, .inl (fun _ => 0))), (q6, .inl (cI, 8, .inl (fun _ => 0))), (q8, .inr (2, [.int 0, .ref q12, .ref q13, .ref q14, .ref q15, .ref q16, .int 0, .ref q17, .ref q18, .ref q19, .ref q20, .ref q21, .int 0, .int 0])), (q12, .inl (cI, 60, .inl (fun _ => 0))), (q13, .inl (cI, 60, .inl (fun _ => 0))), (q14, .inl (cI, 60, .inl (fun _ => 0))), (q15, .inl (cL, 60, .inr (.inl (fun _ => 0)))), (q16, .inl (cL, 8, .inr (.inl (fun _ => 0)))), (q17, .inl (cI, 30, .inl (fun _ => 0))), (q18, .inl (cL, 30, .inr (.inl (fun _ => 0)))), (q19, .inl (cI, 30, .inl (fun _ => 0))), (q20, .inl (cI, 30, .inl (fun _ => 0))), (q21, .inl (cL, 30, .inr (.inl (fun _ => 0)))), (q23, .inr (3, [.ref q27, .int (-1)])), (q27, .inl (cI, 31, .inl (fun _ => 0))), (q29, .inr (4, [.null, .null, .null, .null]))] H30 := hPn
  replace hD : va_D A [(h0, .inr (0, [.ref q1, .ref q8, .ref q23, .null, .null])), (q1, .inr (1, [.ref q5, .ref q6, .int 0, .int 0])), (q5, .inl (cI, 8, .inl (fun _ => 0))), (q6, .inl (cI, 8, .inl (fun _ => 0))), (q8, .inr (2, [.int 0, .ref q12, .ref q13, .ref q14, .ref q15, .ref q16, .int 0, .ref q17, .ref q18, .ref q19, .ref q20, .ref q21, .int 0, .int 0])), (q12, .inl (cI, 60, .inl (fun _ => 0))), (q13, .inl (cI, 60, .inl (fun _ => 0))), (q14, .inl (cI, 60, .inl (fun _ => 0))), (q15, .inl (cL, 60, .inr (.inl (fun _ => 0)))), (q16, .inl (cL, 8, .inr (.inl (fun _ => 0)))), (q17, .inl (cI, 30, .inl (fun _ => 0))), (q18, .inl (cL, 30, .inr (.inl (fun _ => 0)))), (q19, .inl (cI, 30, .inl (fun _ => 0))), (q20, .inl (cI, 30, .inl (fun _ => 0))), (q21, .inl (cL, 30, .inr (.inl (fun _ => 0)))), (q23, .inr (3, [.ref q27, .int (-1)])), (q27, .inl (cI, 31, .inl (fun _ => 0))), (q29, .inr (4, [.null, .null, .null, .null]))] := hDn
  replace hS := hSn
  clear hPn hDn hSn
  refine W.cs (cells' := 17) (slots' := 469) rfl rfl ?_
  refine lv_dup hx hb d_NU_init_41 rfl ?_
  refine lv_aload_n hx hb d_NU_init_42 rfl (lv_at hl 0 rfl) ?_
  refine va_get (D := (dC, dI)) (ci := 0) (v := .ref q1) (C := "NetUnfolder") (T := T_NU) (N := 5) hx hb ht in_NU hown hK hP 0 rfl rfl 0 (by decide) (ht _ wd_2_36) (fun _ h9 => h9) rfl d_NU_init_43 ?_
  refine lv_aload_n hx hb d_NU_init_46 rfl (lv_at hl 0 rfl) ?_
  refine va_get (D := (dC, dI)) (ci := 0) (v := .ref q8) (C := "NetUnfolder") (T := T_NU) (N := 5) hx hb ht in_NU hown hK hP 0 rfl rfl 1 (by decide) (ht _ wd_2_37) (fun _ h9 => h9) rfl d_NU_init_47 ?_
  refine lv_aload_n hx hb d_NU_init_50 rfl (lv_at hl 0 rfl) ?_
  refine va_get (D := (dC, dI)) (ci := 0) (v := .ref q23) (C := "NetUnfolder") (T := T_NU) (N := 5) hx hb ht in_NU hown hK hP 0 rfl rfl 2 (by decide) (ht _ wd_2_38) (fun _ h9 => h9) rfl d_NU_init_51 ?_
  have hPc := hP.sub (ws' := [(q29, .inr (4, [.null, .null, .null, .null]))]) [17] rfl
  have hDc := hD.sub (ws' := [(q29, .inr (4, [.null, .null, .null, .null]))]) [17] (by decide) rfl
  have hFc := va_free (wc := [(q29, .inr (4, [.null, .null, .null, .null]))]) hD hS hA [17] rfl
  refine va_callv (va_runI (As := [.ref q1, .ref q8, .ref q23]) (rest := [.ref q29, .ref h0]) ⟨hx, hb, hml, hown, ht⟩ (c_Un_init l dC dI cI cL cZ _ q29 q1 q8 q23 ) (cwI 3 ht (goodA wd_1_156) rfl rfl rfl (ht _ wd_1_5) (ht _ wd_1_154) (ht _ wd_1_155) rfl (by decide +kernel) ⟨Nat.le_of_ble_eq_true rfl, Nat.le_of_ble_eq_true rfl⟩) ⟨fun a U g mk q => by obtain ⟨q0, q1, qP, qK, qD, qN⟩ := q; exact ⟨q0, q1, qP, va_K.moved (u := U) (U := U.calling g mk a) (Vm.Alike.refl U.vm) qK, qD, NwA.same (u := U) rfl qN⟩, fun U hU hW => ⟨rfl, by rw [hU], by rw [hU]; exact hPc, va_K.moved hW.alike hK, hDc.weaken (fun _ _ _ _ => trivial), NwA.warm hW hN⟩⟩ rfl rfl hl.1 rfl (lv_room (Nat.le_of_ble_eq_true rfl)) d_NU_init_54 ⟨Nat.le_of_ble_eq_true rfl, Nat.le_of_ble_eq_true rfl⟩) hS (fun q _ h => hFc q h) hFc (fun u t H31 locs ht9 hvm hw32 hB hz1 hk1 hSn => ?_)
  obtain ⟨q33, q34, q35, q36, hP1, hD1⟩ := hB
  rw [ht9] at hP1
  obtain ⟨hPn, hDn⟩ := va_join (wr := [(h0, .inr (0, [.ref q1, .ref q8, .ref q23, .null, .null])), (q1, .inr (1, [.ref q5, .ref q6, .int 0, .int 0])), (q5, .inl (cI, 8, .inl (fun _ => 0))), (q6, .inl (cI, 8, .inl (fun _ => 0))), (q8, .inr (2, [.int 0, .ref q12, .ref q13, .ref q14, .ref q15, .ref q16, .int 0, .ref q17, .ref q18, .ref q19, .ref q20, .ref q21, .int 0, .int 0])), (q12, .inl (cI, 60, .inl (fun _ => 0))), (q13, .inl (cI, 60, .inl (fun _ => 0))), (q14, .inl (cI, 60, .inl (fun _ => 0))), (q15, .inl (cL, 60, .inr (.inl (fun _ => 0)))), (q16, .inl (cL, 8, .inr (.inl (fun _ => 0)))), (q17, .inl (cI, 30, .inl (fun _ => 0))), (q18, .inl (cL, 30, .inr (.inl (fun _ => 0)))), (q19, .inl (cI, 30, .inl (fun _ => 0))), (q20, .inl (cI, 30, .inl (fun _ => 0))), (q21, .inl (cL, 30, .inr (.inl (fun _ => 0)))), (q23, .inr (3, [.ref q27, .int (-1)])), (q27, .inl (cI, 31, .inl (fun _ => 0)))]) (w1 := [(q29, .inr (4, [.ref q1, .ref q8, .ref q23, .ref q33])), (q33, .inr (5, [.ref q8, .int 0, .ref q34, .ref q35, .ref q36])), (q34, .inl (cI, 201, .inl (fun _ => 0))), (q35, .inl (cL, 201, .inr (.inl (fun _ => 0)))), (q36, .inl (cL, 201, .inr (.inl (fun _ => 0))))]) hP hD [17] [0, 1, 2, 3, 4, 5, 6, 7, 8, 9, 10, 11, 12, 13, 14, 15, 16] rfl rfl (by decide) (by decide) hk1 hFc hP1 hD1
  replace hP : va_P (dC, dI) clA [(h0, .inr (0, [.ref q1, .ref q8, .ref q23, .null, .null])), (q1, .inr (1, [.ref q5, .ref q6, .int 0, .int 0])), (q5, .inl (cI, 8, .inl (fun _ => 0))), (q6, .inl (cI, 8, .inl (fun _ => 0))), (q8, .inr (2, [.int 0, .ref q12, .ref q13, .ref q14, .ref q15, .ref q16, .int 0, .ref q17, .ref q18, .ref q19, .ref q20, .ref q21, .int 0, .int 0])), (q12, .inl (cI, 60, .inl (fun _ => 0))), (q13, .inl (cI, 60, .inl (fun _ => 0))), (q14, .inl (cI, 60, .inl (fun _ => 0))), (q15, .inl (cL, 60, .inr (.inl (fun _ => 0)))), (q16, .inl (cL, 8, .inr (.inl (fun _ => 0)))), (q17, .inl (cI, 30, .inl (fun _ => 0))), (q18, .inl (cL, 30, .inr (.inl (fun _ => 0)))), (q19, .inl (cI, 30, .inl (fun _ => 0))), (q20, .inl (cI, 30, .inl (fun _ => 0))), (q21, .inl (cL, 30, .inr (.inl (fun _ => 0)))), (q23, .inr (3, [.ref q27, .int (-1)])), (q27, .inl (cI, 31, .inl (fun _ => 0))), (q29, .inr (4, [.ref q1, .ref q8, .ref q23, .ref q33])), (q33, .inr (5, [.ref q8, .int 0, .ref q34, .ref q35, .ref q36])), (q34, .inl (cI, 201, .inl (fun _ => 0))), (q35, .inl (cL, 201, .inr (.inl (fun _ => 0)))), (q36, .inl (cL, 201, .inr (.inl (fun _ => 0))))] H31 := hPn
  replace hD : va_D A [(h0, .inr (0, [.ref q1, .ref q8, .ref q23, .null, .null])), (q1, .inr (1, [.ref q5, .ref q6, .int 0, .int 0])), (q5, .inl (cI, 8, .inl (fun _ => 0))), (q6, .inl (cI, 8, .inl (fun _ => 0))), (q8, .inr (2, [.int 0, .ref q12, .ref q13, .ref q14, .ref q15, .ref q16, .int 0, .ref q17, .ref q18, .ref q19, .ref q20, .ref q21, .int 0, .int 0])), (q12, .inl (cI, 60, .inl (fun _ => 0))), (q13, .inl (cI, 60, .inl (fun _ => 0))), (q14, .inl (cI, 60, .inl (fun _ => 0))), (q15, .inl (cL, 60, .inr (.inl (fun _ => 0)))), (q16, .inl (cL, 8, .inr (.inl (fun _ => 0)))), (q17, .inl (cI, 30, .inl (fun _ => 0))), (q18, .inl (cL, 30, .inr (.inl (fun _ => 0)))), (q19, .inl (cI, 30, .inl (fun _ => 0))), (q20, .inl (cI, 30, .inl (fun _ => 0))), (q21, .inl (cL, 30, .inr (.inl (fun _ => 0)))), (q23, .inr (3, [.ref q27, .int (-1)])), (q27, .inl (cI, 31, .inl (fun _ => 0))), (q29, .inr (4, [.ref q1, .ref q8, .ref q23, .ref q33])), (q33, .inr (5, [.ref q8, .int 0, .ref q34, .ref q35, .ref q36])), (q34, .inl (cI, 201, .inl (fun _ => 0))), (q35, .inl (cL, 201, .inr (.inl (fun _ => 0)))), (q36, .inl (cL, 201, .inr (.inl (fun _ => 0))))] := hDn
  replace hS := hSn
  clear hPn hDn hSn
  clear hPc hDc hFc hP1 hD1 hk1 hz1 ht9 hvm
  refine W.cs (cells' := 21) (slots' := 1077) rfl rfl ?_
  refine va_putF (D := (dC, dI)) (ci := 0) (v := .ref q29) (ty := .object "NetUnfolder$Unfolding") (C := "NetUnfolder") (T := T_NU) (N := 5) hx hb ht in_NU ty_NU ok_NU nm_NU hown hK hP hD hS 0 rfl rfl 3 (by decide) (ht _ wd_2_39) (fun _ h9 => h9) rfl hin rfl (by decide +kernel) rfl rfl (Nat.le_of_ble_eq_true rfl) d_NU_init_57 (fun H37 locs hPn hDn hSn => ?_)
  replace hP : va_P (dC, dI) clA [(h0, .inr (0, [.ref q1, .ref q8, .ref q23, .ref q29, .null])), (q1, .inr (1, [.ref q5, .ref q6, .int 0, .int 0])), (q5, .inl (cI, 8, .inl (fun _ => 0))), (q6, .inl (cI, 8, .inl (fun _ => 0))), (q8, .inr (2, [.int 0, .ref q12, .ref q13, .ref q14, .ref q15, .ref q16, .int 0, .ref q17, .ref q18, .ref q19, .ref q20, .ref q21, .int 0, .int 0])), (q12, .inl (cI, 60, .inl (fun _ => 0))), (q13, .inl (cI, 60, .inl (fun _ => 0))), (q14, .inl (cI, 60, .inl (fun _ => 0))), (q15, .inl (cL, 60, .inr (.inl (fun _ => 0)))), (q16, .inl (cL, 8, .inr (.inl (fun _ => 0)))), (q17, .inl (cI, 30, .inl (fun _ => 0))), (q18, .inl (cL, 30, .inr (.inl (fun _ => 0)))), (q19, .inl (cI, 30, .inl (fun _ => 0))), (q20, .inl (cI, 30, .inl (fun _ => 0))), (q21, .inl (cL, 30, .inr (.inl (fun _ => 0)))), (q23, .inr (3, [.ref q27, .int (-1)])), (q27, .inl (cI, 31, .inl (fun _ => 0))), (q29, .inr (4, [.ref q1, .ref q8, .ref q23, .ref q33])), (q33, .inr (5, [.ref q8, .int 0, .ref q34, .ref q35, .ref q36])), (q34, .inl (cI, 201, .inl (fun _ => 0))), (q35, .inl (cL, 201, .inr (.inl (fun _ => 0)))), (q36, .inl (cL, 201, .inr (.inl (fun _ => 0))))] H37 := hPn
  replace hD : va_D A [(h0, .inr (0, [.ref q1, .ref q8, .ref q23, .ref q29, .null])), (q1, .inr (1, [.ref q5, .ref q6, .int 0, .int 0])), (q5, .inl (cI, 8, .inl (fun _ => 0))), (q6, .inl (cI, 8, .inl (fun _ => 0))), (q8, .inr (2, [.int 0, .ref q12, .ref q13, .ref q14, .ref q15, .ref q16, .int 0, .ref q17, .ref q18, .ref q19, .ref q20, .ref q21, .int 0, .int 0])), (q12, .inl (cI, 60, .inl (fun _ => 0))), (q13, .inl (cI, 60, .inl (fun _ => 0))), (q14, .inl (cI, 60, .inl (fun _ => 0))), (q15, .inl (cL, 60, .inr (.inl (fun _ => 0)))), (q16, .inl (cL, 8, .inr (.inl (fun _ => 0)))), (q17, .inl (cI, 30, .inl (fun _ => 0))), (q18, .inl (cL, 30, .inr (.inl (fun _ => 0)))), (q19, .inl (cI, 30, .inl (fun _ => 0))), (q20, .inl (cI, 30, .inl (fun _ => 0))), (q21, .inl (cL, 30, .inr (.inl (fun _ => 0)))), (q23, .inr (3, [.ref q27, .int (-1)])), (q27, .inl (cI, 31, .inl (fun _ => 0))), (q29, .inr (4, [.ref q1, .ref q8, .ref q23, .ref q33])), (q33, .inr (5, [.ref q8, .int 0, .ref q34, .ref q35, .ref q36])), (q34, .inl (cI, 201, .inl (fun _ => 0))), (q35, .inl (cL, 201, .inr (.inl (fun _ => 0)))), (q36, .inl (cL, 201, .inr (.inl (fun _ => 0))))] := hDn
  replace hS := hSn
  clear hPn hDn hSn
  refine lv_aload_n hx hb d_NU_init_60 rfl (lv_at hl 0 rfl) ?_
  refine va_new (ci := 6) (fs := [.null, .null, .null, .null, .null, .int 0]) (C := "NetUnfolder$Question") (T := T_Qu) (N := 6) hx hb ht in_Qu ty_Qu ok_Qu hown (ht _ wd_1_197) (ht _ wd_1_198) (ht _ wd_1_7) hK hP hD hS hA rfl (by decide +kernel) (Nat.le_of_ble_eq_true rfl) (Nat.le_of_ble_eq_true rfl) d_NU_init_61 (fun q38 H39 hPn hDn hSn => ?_)
  replace hP : va_P (dC, dI) clA [(h0, .inr (0, [.ref q1, .ref q8, .ref q23, .ref q29, .null])), (q1, .inr (1, [.ref q5, .ref q6, .int 0, .int 0])), (q5, .inl (cI, 8, .inl (fun _ => 0))), (q6, .inl (cI, 8, .inl (fun _ => 0))), (q8, .inr (2, [.int 0, .ref q12, .ref q13, .ref q14, .ref q15, .ref q16, .int 0, .ref q17, .ref q18, .ref q19, .ref q20, .ref q21, .int 0, .int 0])), (q12, .inl (cI, 60, .inl (fun _ => 0))), (q13, .inl (cI, 60, .inl (fun _ => 0))), (q14, .inl (cI, 60, .inl (fun _ => 0))), (q15, .inl (cL, 60, .inr (.inl (fun _ => 0)))), (q16, .inl (cL, 8, .inr (.inl (fun _ => 0)))), (q17, .inl (cI, 30, .inl (fun _ => 0))), (q18, .inl (cL, 30, .inr (.inl (fun _ => 0)))), (q19, .inl (cI, 30, .inl (fun _ => 0))), (q20, .inl (cI, 30, .inl (fun _ => 0))), (q21, .inl (cL, 30, .inr (.inl (fun _ => 0)))), (q23, .inr (3, [.ref q27, .int (-1)])), (q27, .inl (cI, 31, .inl (fun _ => 0))), (q29, .inr (4, [.ref q1, .ref q8, .ref q23, .ref q33])), (q33, .inr (5, [.ref q8, .int 0, .ref q34, .ref q35, .ref q36])), (q34, .inl (cI, 201, .inl (fun _ => 0))), (q35, .inl (cL, 201, .inr (.inl (fun _ => 0)))), (q36, .inl (cL, 201, .inr (.inl (fun _ => 0)))), (q38, .inr (6, [.null, .null, .null, .null, .null, .int 0]))] H39 := hPn
  replace hD : va_D A [(h0, .inr (0, [.ref q1, .ref q8, .ref q23, .ref q29, .null])), (q1, .inr (1, [.ref q5, .ref q6, .int 0, .int 0])), (q5, .inl (cI, 8, .inl (fun _ => 0))), (q6, .inl (cI, 8, .inl (fun _ => 0))), (q8, .inr (2, [.int 0, .ref q12, .ref q13, .ref q14, .ref q15, .ref q16, .int 0, .ref q17, .ref q18, .ref q19, .ref q20, .ref q21, .int 0, .int 0])), (q12, .inl (cI, 60, .inl (fun _ => 0))), (q13, .inl (cI, 60, .inl (fun _ => 0))), (q14, .inl (cI, 60, .inl (fun _ => 0))), (q15, .inl (cL, 60, .inr (.inl (fun _ => 0)))), (q16, .inl (cL, 8, .inr (.inl (fun _ => 0)))), (q17, .inl (cI, 30, .inl (fun _ => 0))), (q18, .inl (cL, 30, .inr (.inl (fun _ => 0)))), (q19, .inl (cI, 30, .inl (fun _ => 0))), (q20, .inl (cI, 30, .inl (fun _ => 0))), (q21, .inl (cL, 30, .inr (.inl (fun _ => 0)))), (q23, .inr (3, [.ref q27, .int (-1)])), (q27, .inl (cI, 31, .inl (fun _ => 0))), (q29, .inr (4, [.ref q1, .ref q8, .ref q23, .ref q33])), (q33, .inr (5, [.ref q8, .int 0, .ref q34, .ref q35, .ref q36])), (q34, .inl (cI, 201, .inl (fun _ => 0))), (q35, .inl (cL, 201, .inr (.inl (fun _ => 0)))), (q36, .inl (cL, 201, .inr (.inl (fun _ => 0)))), (q38, .inr (6, [.null, .null, .null, .null, .null, .int 0]))] := hDn
  replace hS := hSn
  clear hPn hDn hSn
  refine W.cs (cells' := 22) (slots' := 1083) rfl rfl ?_
  refine lv_dup hx hb d_NU_init_64 rfl ?_
  refine lv_aload_n hx hb d_NU_init_65 rfl (lv_at hl 0 rfl) ?_
  refine va_get (D := (dC, dI)) (ci := 0) (v := .ref q1) (C := "NetUnfolder") (T := T_NU) (N := 5) hx hb ht in_NU hown hK hP 0 rfl rfl 0 (by decide) (ht _ wd_2_36) (fun _ h9 => h9) rfl d_NU_init_66 ?_
  refine lv_aload_n hx hb d_NU_init_69 rfl (lv_at hl 0 rfl) ?_
  refine va_get (D := (dC, dI)) (ci := 0) (v := .ref q8) (C := "NetUnfolder") (T := T_NU) (N := 5) hx hb ht in_NU hown hK hP 0 rfl rfl 1 (by decide) (ht _ wd_2_37) (fun _ h9 => h9) rfl d_NU_init_70 ?_
  refine lv_aload_n hx hb d_NU_init_73 rfl (lv_at hl 0 rfl) ?_
  refine va_get (D := (dC, dI)) (ci := 0) (v := .ref q23) (C := "NetUnfolder") (T := T_NU) (N := 5) hx hb ht in_NU hown hK hP 0 rfl rfl 2 (by decide) (ht _ wd_2_38) (fun _ h9 => h9) rfl d_NU_init_74 ?_
  have hPc := hP.sub (ws' := [(q38, .inr (6, [.null, .null, .null, .null, .null, .int 0]))]) [22] rfl
  have hDc := hD.sub (ws' := [(q38, .inr (6, [.null, .null, .null, .null, .null, .int 0]))]) [22] (by decide) rfl
  have hFc := va_free (wc := [(q38, .inr (6, [.null, .null, .null, .null, .null, .int 0]))]) hD hS hA [22] rfl
  refine va_callv (va_runI (As := [.ref q1, .ref q8, .ref q23]) (rest := [.ref q38, .ref h0]) ⟨hx, hb, hml, hown, ht⟩ (c_Qu_init l dC dI cI cL cZ _ q38 q1 q8 q23 ) (cwI 3 ht (goodA wd_1_201) rfl rfl rfl (ht _ wd_1_7) (ht _ wd_1_199) (ht _ wd_1_200) rfl (by decide +kernel) ⟨Nat.le_of_ble_eq_true rfl, Nat.le_of_ble_eq_true rfl⟩) ⟨fun a U g mk q => by obtain ⟨q0, q1, qP, qK, qD, qN⟩ := q; exact ⟨q0, q1, qP, va_K.moved (u := U) (U := U.calling g mk a) (Vm.Alike.refl U.vm) qK, qD, NwA.same (u := U) rfl qN⟩, fun U hU hW => ⟨rfl, by rw [hU], by rw [hU]; exact hPc, va_K.moved hW.alike hK, hDc.weaken (fun _ _ _ _ => trivial), NwA.warm hW hN⟩⟩ rfl rfl hl.1 rfl (lv_room (Nat.le_of_ble_eq_true rfl)) d_NU_init_77 ⟨Nat.le_of_ble_eq_true rfl, Nat.le_of_ble_eq_true rfl⟩) hS (fun q _ h => hFc q h) hFc (fun u t H40 locs ht9 hvm hw41 hB hz1 hk1 hSn => ?_)
  obtain ⟨q42, q43, q44, q45, q46, q47, q48, hP1, hD1⟩ := hB
  rw [ht9] at hP1
  obtain ⟨hPn, hDn⟩ := va_join (wr := [(h0, .inr (0, [.ref q1, .ref q8, .ref q23, .ref q29, .null])), (q1, .inr (1, [.ref q5, .ref q6, .int 0, .int 0])), (q5, .inl (cI, 8, .inl (fun _ => 0))), (q6, .inl (cI, 8, .inl (fun _ => 0))), (q8, .inr (2, [.int 0, .ref q12, .ref q13, .ref q14, .ref q15, .ref q16, .int 0, .ref q17, .ref q18, .ref q19, .ref q20, .ref q21, .int 0, .int 0])), (q12, .inl (cI, 60, .inl (fun _ => 0))), (q13, .inl (cI, 60, .inl (fun _ => 0))), (q14, .inl (cI, 60, .inl (fun _ => 0))), (q15, .inl (cL, 60, .inr (.inl (fun _ => 0)))), (q16, .inl (cL, 8, .inr (.inl (fun _ => 0)))), (q17, .inl (cI, 30, .inl (fun _ => 0))), (q18, .inl (cL, 30, .inr (.inl (fun _ => 0)))), (q19, .inl (cI, 30, .inl (fun _ => 0))), (q20, .inl (cI, 30, .inl (fun _ => 0))), (q21, .inl (cL, 30, .inr (.inl (fun _ => 0)))), (q23, .inr (3, [.ref q27, .int (-1)])), (q27, .inl (cI, 31, .inl (fun _ => 0))), (q29, .inr (4, [.ref q1, .ref q8, .ref q23, .ref q33])), (q33, .inr (5, [.ref q8, .int 0, .ref q34, .ref q35, .ref q36])), (q34, .inl (cI, 201, .inl (fun _ => 0))), (q35, .inl (cL, 201, .inr (.inl (fun _ => 0)))), (q36, .inl (cL, 201, .inr (.inl (fun _ => 0))))]) (w1 := [(q38, .inr (6, [.ref q1, .ref q8, .ref q23, .ref q42, .ref q45, .int 0])), (q42, .inr (7, [.ref q43, .ref q44, .int 0, .int 0])), (q43, .inl (cL, 815, .inr (.inl (fun _ => 0)))), (q44, .inl (cL, 815, .inr (.inl (fun _ => 0)))), (q45, .inr (8, [.ref q42, .long 0, .long 0, .int 0, .ref q46, .ref q47, .int 0, .ref q48])), (q46, .inl (cL, 39, .inr (.inl (fun _ => 0)))), (q47, .inl (cI, 38, .inl (fun _ => 0))), (q48, .inl (cI, 38, .inl (fun _ => 0)))]) hP hD [22] [0, 1, 2, 3, 4, 5, 6, 7, 8, 9, 10, 11, 12, 13, 14, 15, 16, 17, 18, 19, 20, 21] rfl rfl (by decide) (by decide) hk1 hFc hP1 hD1
  replace hP : va_P (dC, dI) clA [(h0, .inr (0, [.ref q1, .ref q8, .ref q23, .ref q29, .null])), (q1, .inr (1, [.ref q5, .ref q6, .int 0, .int 0])), (q5, .inl (cI, 8, .inl (fun _ => 0))), (q6, .inl (cI, 8, .inl (fun _ => 0))), (q8, .inr (2, [.int 0, .ref q12, .ref q13, .ref q14, .ref q15, .ref q16, .int 0, .ref q17, .ref q18, .ref q19, .ref q20, .ref q21, .int 0, .int 0])), (q12, .inl (cI, 60, .inl (fun _ => 0))), (q13, .inl (cI, 60, .inl (fun _ => 0))), (q14, .inl (cI, 60, .inl (fun _ => 0))), (q15, .inl (cL, 60, .inr (.inl (fun _ => 0)))), (q16, .inl (cL, 8, .inr (.inl (fun _ => 0)))), (q17, .inl (cI, 30, .inl (fun _ => 0))), (q18, .inl (cL, 30, .inr (.inl (fun _ => 0)))), (q19, .inl (cI, 30, .inl (fun _ => 0))), (q20, .inl (cI, 30, .inl (fun _ => 0))), (q21, .inl (cL, 30, .inr (.inl (fun _ => 0)))), (q23, .inr (3, [.ref q27, .int (-1)])), (q27, .inl (cI, 31, .inl (fun _ => 0))), (q29, .inr (4, [.ref q1, .ref q8, .ref q23, .ref q33])), (q33, .inr (5, [.ref q8, .int 0, .ref q34, .ref q35, .ref q36])), (q34, .inl (cI, 201, .inl (fun _ => 0))), (q35, .inl (cL, 201, .inr (.inl (fun _ => 0)))), (q36, .inl (cL, 201, .inr (.inl (fun _ => 0)))), (q38, .inr (6, [.ref q1, .ref q8, .ref q23, .ref q42, .ref q45, .int 0])), (q42, .inr (7, [.ref q43, .ref q44, .int 0, .int 0])), (q43, .inl (cL, 815, .inr (.inl (fun _ => 0)))), (q44, .inl (cL, 815, .inr (.inl (fun _ => 0)))), (q45, .inr (8, [.ref q42, .long 0, .long 0, .int 0, .ref q46, .ref q47, .int 0, .ref q48])), (q46, .inl (cL, 39, .inr (.inl (fun _ => 0)))), (q47, .inl (cI, 38, .inl (fun _ => 0))), (q48, .inl (cI, 38, .inl (fun _ => 0)))] H40 := hPn
  replace hD : va_D A [(h0, .inr (0, [.ref q1, .ref q8, .ref q23, .ref q29, .null])), (q1, .inr (1, [.ref q5, .ref q6, .int 0, .int 0])), (q5, .inl (cI, 8, .inl (fun _ => 0))), (q6, .inl (cI, 8, .inl (fun _ => 0))), (q8, .inr (2, [.int 0, .ref q12, .ref q13, .ref q14, .ref q15, .ref q16, .int 0, .ref q17, .ref q18, .ref q19, .ref q20, .ref q21, .int 0, .int 0])), (q12, .inl (cI, 60, .inl (fun _ => 0))), (q13, .inl (cI, 60, .inl (fun _ => 0))), (q14, .inl (cI, 60, .inl (fun _ => 0))), (q15, .inl (cL, 60, .inr (.inl (fun _ => 0)))), (q16, .inl (cL, 8, .inr (.inl (fun _ => 0)))), (q17, .inl (cI, 30, .inl (fun _ => 0))), (q18, .inl (cL, 30, .inr (.inl (fun _ => 0)))), (q19, .inl (cI, 30, .inl (fun _ => 0))), (q20, .inl (cI, 30, .inl (fun _ => 0))), (q21, .inl (cL, 30, .inr (.inl (fun _ => 0)))), (q23, .inr (3, [.ref q27, .int (-1)])), (q27, .inl (cI, 31, .inl (fun _ => 0))), (q29, .inr (4, [.ref q1, .ref q8, .ref q23, .ref q33])), (q33, .inr (5, [.ref q8, .int 0, .ref q34, .ref q35, .ref q36])), (q34, .inl (cI, 201, .inl (fun _ => 0))), (q35, .inl (cL, 201, .inr (.inl (fun _ => 0)))), (q36, .inl (cL, 201, .inr (.inl (fun _ => 0)))), (q38, .inr (6, [.ref q1, .ref q8, .ref q23, .ref q42, .ref q45, .int 0])), (q42, .inr (7, [.ref q43, .ref q44, .int 0, .int 0])), (q43, .inl (cL, 815, .inr (.inl (fun _ => 0)))), (q44, .inl (cL, 815, .inr (.inl (fun _ => 0)))), (q45, .inr (8, [.ref q42, .long 0, .long 0, .int 0, .ref q46, .ref q47, .int 0, .ref q48])), (q46, .inl (cL, 39, .inr (.inl (fun _ => 0)))), (q47, .inl (cI, 38, .inl (fun _ => 0))), (q48, .inl (cI, 38, .inl (fun _ => 0)))] := hDn
  replace hS := hSn
  clear hPn hDn hSn
  clear hPc hDc hFc hP1 hD1 hk1 hz1 ht9 hvm
  refine W.cs (cells' := 29) (slots' := 2840) rfl rfl ?_
  refine va_putF (D := (dC, dI)) (ci := 0) (v := .ref q38) (ty := .object "NetUnfolder$Question") (C := "NetUnfolder") (T := T_NU) (N := 5) hx hb ht in_NU ty_NU ok_NU nm_NU hown hK hP hD hS 0 rfl rfl 4 (by decide) (ht _ wd_2_40) (fun _ h9 => h9) rfl hin rfl (by decide +kernel) rfl rfl (Nat.le_of_ble_eq_true rfl) d_NU_init_80 (fun H49 locs hPn hDn hSn => ?_)
  replace hP : va_P (dC, dI) clA [(h0, .inr (0, [.ref q1, .ref q8, .ref q23, .ref q29, .ref q38])), (q1, .inr (1, [.ref q5, .ref q6, .int 0, .int 0])), (q5, .inl (cI, 8, .inl (fun _ => 0))), (q6, .inl (cI, 8, .inl (fun _ => 0))), (q8, .inr (2, [.int 0, .ref q12, .ref q13, .ref q14, .ref q15, .ref q16, .int 0, .ref q17, .ref q18, .ref q19, .ref q20, .ref q21, .int 0, .int 0])), (q12, .inl (cI, 60, .inl (fun _ => 0))), (q13, .inl (cI, 60, .inl (fun _ => 0))), (q14, .inl (cI, 60, .inl (fun _ => 0))), (q15, .inl (cL, 60, .inr (.inl (fun _ => 0)))), (q16, .inl (cL, 8, .inr (.inl (fun _ => 0)))), (q17, .inl (cI, 30, .inl (fun _ => 0))), (q18, .inl (cL, 30, .inr (.inl (fun _ => 0)))), (q19, .inl (cI, 30, .inl (fun _ => 0))), (q20, .inl (cI, 30, .inl (fun _ => 0))), (q21, .inl (cL, 30, .inr (.inl (fun _ => 0)))), (q23, .inr (3, [.ref q27, .int (-1)])), (q27, .inl (cI, 31, .inl (fun _ => 0))), (q29, .inr (4, [.ref q1, .ref q8, .ref q23, .ref q33])), (q33, .inr (5, [.ref q8, .int 0, .ref q34, .ref q35, .ref q36])), (q34, .inl (cI, 201, .inl (fun _ => 0))), (q35, .inl (cL, 201, .inr (.inl (fun _ => 0)))), (q36, .inl (cL, 201, .inr (.inl (fun _ => 0)))), (q38, .inr (6, [.ref q1, .ref q8, .ref q23, .ref q42, .ref q45, .int 0])), (q42, .inr (7, [.ref q43, .ref q44, .int 0, .int 0])), (q43, .inl (cL, 815, .inr (.inl (fun _ => 0)))), (q44, .inl (cL, 815, .inr (.inl (fun _ => 0)))), (q45, .inr (8, [.ref q42, .long 0, .long 0, .int 0, .ref q46, .ref q47, .int 0, .ref q48])), (q46, .inl (cL, 39, .inr (.inl (fun _ => 0)))), (q47, .inl (cI, 38, .inl (fun _ => 0))), (q48, .inl (cI, 38, .inl (fun _ => 0)))] H49 := hPn
  replace hD : va_D A [(h0, .inr (0, [.ref q1, .ref q8, .ref q23, .ref q29, .ref q38])), (q1, .inr (1, [.ref q5, .ref q6, .int 0, .int 0])), (q5, .inl (cI, 8, .inl (fun _ => 0))), (q6, .inl (cI, 8, .inl (fun _ => 0))), (q8, .inr (2, [.int 0, .ref q12, .ref q13, .ref q14, .ref q15, .ref q16, .int 0, .ref q17, .ref q18, .ref q19, .ref q20, .ref q21, .int 0, .int 0])), (q12, .inl (cI, 60, .inl (fun _ => 0))), (q13, .inl (cI, 60, .inl (fun _ => 0))), (q14, .inl (cI, 60, .inl (fun _ => 0))), (q15, .inl (cL, 60, .inr (.inl (fun _ => 0)))), (q16, .inl (cL, 8, .inr (.inl (fun _ => 0)))), (q17, .inl (cI, 30, .inl (fun _ => 0))), (q18, .inl (cL, 30, .inr (.inl (fun _ => 0)))), (q19, .inl (cI, 30, .inl (fun _ => 0))), (q20, .inl (cI, 30, .inl (fun _ => 0))), (q21, .inl (cL, 30, .inr (.inl (fun _ => 0)))), (q23, .inr (3, [.ref q27, .int (-1)])), (q27, .inl (cI, 31, .inl (fun _ => 0))), (q29, .inr (4, [.ref q1, .ref q8, .ref q23, .ref q33])), (q33, .inr (5, [.ref q8, .int 0, .ref q34, .ref q35, .ref q36])), (q34, .inl (cI, 201, .inl (fun _ => 0))), (q35, .inl (cL, 201, .inr (.inl (fun _ => 0)))), (q36, .inl (cL, 201, .inr (.inl (fun _ => 0)))), (q38, .inr (6, [.ref q1, .ref q8, .ref q23, .ref q42, .ref q45, .int 0])), (q42, .inr (7, [.ref q43, .ref q44, .int 0, .int 0])), (q43, .inl (cL, 815, .inr (.inl (fun _ => 0)))), (q44, .inl (cL, 815, .inr (.inl (fun _ => 0)))), (q45, .inr (8, [.ref q42, .long 0, .long 0, .int 0, .ref q46, .ref q47, .int 0, .ref q48])), (q46, .inl (cL, 39, .inr (.inl (fun _ => 0)))), (q47, .inl (cI, 38, .inl (fun _ => 0))), (q48, .inl (cI, 38, .inl (fun _ => 0)))] := hDn
  replace hS := hSn
  clear hPn hDn hSn
  have hP9 := hP.sub (ws' := [(h0, .inr (0, [.ref q1, .ref q8, .ref q23, .ref q29, .ref q38])), (q1, .inr (1, [.ref q5, .ref q6, .int 0, .int 0])), (q5, .inl (cI, 8, .inl (fun _ => 0))), (q6, .inl (cI, 8, .inl (fun _ => 0))), (q8, .inr (2, [.int 0, .ref q12, .ref q13, .ref q14, .ref q15, .ref q16, .int 0, .ref q17, .ref q18, .ref q19, .ref q20, .ref q21, .int 0, .int 0])), (q12, .inl (cI, 60, .inl (fun _ => 0))), (q13, .inl (cI, 60, .inl (fun _ => 0))), (q14, .inl (cI, 60, .inl (fun _ => 0))), (q15, .inl (cL, 60, .inr (.inl (fun _ => 0)))), (q16, .inl (cL, 8, .inr (.inl (fun _ => 0)))), (q17, .inl (cI, 30, .inl (fun _ => 0))), (q18, .inl (cL, 30, .inr (.inl (fun _ => 0)))), (q19, .inl (cI, 30, .inl (fun _ => 0))), (q20, .inl (cI, 30, .inl (fun _ => 0))), (q21, .inl (cL, 30, .inr (.inl (fun _ => 0)))), (q23, .inr (3, [.ref q27, .int (-1)])), (q27, .inl (cI, 31, .inl (fun _ => 0))), (q29, .inr (4, [.ref q1, .ref q8, .ref q23, .ref q33])), (q33, .inr (5, [.ref q8, .int 0, .ref q34, .ref q35, .ref q36])), (q34, .inl (cI, 201, .inl (fun _ => 0))), (q35, .inl (cL, 201, .inr (.inl (fun _ => 0)))), (q36, .inl (cL, 201, .inr (.inl (fun _ => 0)))), (q38, .inr (6, [.ref q1, .ref q8, .ref q23, .ref q42, .ref q45, .int 0])), (q42, .inr (7, [.ref q43, .ref q44, .int 0, .int 0])), (q43, .inl (cL, 815, .inr (.inl (fun _ => 0)))), (q44, .inl (cL, 815, .inr (.inl (fun _ => 0)))), (q45, .inr (8, [.ref q42, .long 0, .long 0, .int 0, .ref q46, .ref q47, .int 0, .ref q48])), (q46, .inl (cL, 39, .inr (.inl (fun _ => 0)))), (q47, .inl (cI, 38, .inl (fun _ => 0))), (q48, .inl (cI, 38, .inl (fun _ => 0)))]) [0, 1, 2, 3, 4, 5, 6, 7, 8, 9, 10, 11, 12, 13, 14, 15, 16, 17, 18, 19, 20, 21, 22, 23, 24, 25, 26, 27, 28, 29] rfl
  have hD9 := hD.sub (ws' := [(h0, .inr (0, [.ref q1, .ref q8, .ref q23, .ref q29, .ref q38])), (q1, .inr (1, [.ref q5, .ref q6, .int 0, .int 0])), (q5, .inl (cI, 8, .inl (fun _ => 0))), (q6, .inl (cI, 8, .inl (fun _ => 0))), (q8, .inr (2, [.int 0, .ref q12, .ref q13, .ref q14, .ref q15, .ref q16, .int 0, .ref q17, .ref q18, .ref q19, .ref q20, .ref q21, .int 0, .int 0])), (q12, .inl (cI, 60, .inl (fun _ => 0))), (q13, .inl (cI, 60, .inl (fun _ => 0))), (q14, .inl (cI, 60, .inl (fun _ => 0))), (q15, .inl (cL, 60, .inr (.inl (fun _ => 0)))), (q16, .inl (cL, 8, .inr (.inl (fun _ => 0)))), (q17, .inl (cI, 30, .inl (fun _ => 0))), (q18, .inl (cL, 30, .inr (.inl (fun _ => 0)))), (q19, .inl (cI, 30, .inl (fun _ => 0))), (q20, .inl (cI, 30, .inl (fun _ => 0))), (q21, .inl (cL, 30, .inr (.inl (fun _ => 0)))), (q23, .inr (3, [.ref q27, .int (-1)])), (q27, .inl (cI, 31, .inl (fun _ => 0))), (q29, .inr (4, [.ref q1, .ref q8, .ref q23, .ref q33])), (q33, .inr (5, [.ref q8, .int 0, .ref q34, .ref q35, .ref q36])), (q34, .inl (cI, 201, .inl (fun _ => 0))), (q35, .inl (cL, 201, .inr (.inl (fun _ => 0)))), (q36, .inl (cL, 201, .inr (.inl (fun _ => 0)))), (q38, .inr (6, [.ref q1, .ref q8, .ref q23, .ref q42, .ref q45, .int 0])), (q42, .inr (7, [.ref q43, .ref q44, .int 0, .int 0])), (q43, .inl (cL, 815, .inr (.inl (fun _ => 0)))), (q44, .inl (cL, 815, .inr (.inl (fun _ => 0)))), (q45, .inr (8, [.ref q42, .long 0, .long 0, .int 0, .ref q46, .ref q47, .int 0, .ref q48])), (q46, .inl (cL, 39, .inr (.inl (fun _ => 0)))), (q47, .inl (cI, 38, .inl (fun _ => 0))), (q48, .inl (cI, 38, .inl (fun _ => 0)))]) [0, 1, 2, 3, 4, 5, 6, 7, 8, 9, 10, 11, 12, 13, 14, 15, 16, 17, 18, 19, 20, 21, 22, 23, 24, 25, 26, 27, 28, 29] (by decide) rfl
  exact W.vret hx hb hr (fun t ht9 hW => ⟨⟨(), rfl, trivial, q1, q5, q6, q8, q12, q13, q14, q15, q16, q17, q18, q19, q20, q21, q23, q27, q29, q33, q34, q35, q36, q38, q42, q43, q44, q45, q46, q47, q48, by rw [ht9]; exact hP9, hD9⟩, hS.F ht9⟩) hS.2.2 d_NU_init_83
