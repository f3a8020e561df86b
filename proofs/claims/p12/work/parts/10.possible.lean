set_option maxHeartbeats 4000000 in
set_option maxRecDepth 100000 in
theorem c_Po_wipe (l : Launch) (dC : Nat → ClassId) (dI : Nat → Nat → Nat) (cI cL cZ : ClassId) (sz : Nat) (o0 : Nat) (o1 : Nat) (o2 : Nat) (o3 : Nat) (f0 : Nat) (oz : Nat) : Met l y_Po_wipe (Cond.code y_Po_wipe prog_4_method_2_code 1 none :: wsA) { frames := 0, cells := 0, slots := 0, locals := 0 } (va_Pc [.ref o0] (fun U => U.heap.size = sz ∧ va_P (dC, dI) clA [(o0, .inr (5, [.ref f0, .int (nI oz), .ref o1, .ref o2, .ref o3]))] U.heap ∧ va_K (dC, dI) clA [(cI, .int), (cL, .long), (cZ, .boolean)] U ∧ va_D (fun _ => True) [(o0, .inr (5, [.ref f0, .int (nI oz), .ref o1, .ref o2, .ref o3]))] ∧ NwA U)) (va_Qv (fun _ : Unit => True) (fun _ t => va_P (dC, dI) clA [(o0, .inr (5, [.ref f0, .int 0, .ref o1, .ref o2, .ref o3]))] t.heap ∧ va_D (va_A [(o0, .inr (5, [.ref f0, .int (nI oz), .ref o1, .ref o2, .ref o3]))] sz) [(o0, .inr (5, [.ref f0, .int 0, .ref o1, .ref o2, .ref o3]))]) (va_A [(o0, .inr (5, [.ref f0, .int (nI oz), .ref o1, .ref o2, .ref o3]))] sz)) 0 0 (va_A [(o0, .inr (5, [.ref f0, .int (nI oz), .ref o1, .ref o2, .ref o3]))] sz) := by
  refine Met.ofW (cc := prog_4_method_2_code) (maxL := 1) (ret := none) (by decide) rfl ?_
  intro p e s m args below meth c s₁ B hml hv
  obtain ⟨rfl, hsz, hP, hK, hD0, hN⟩ := hv
  have hx := B.exec
  have hb := B.bytes
  have hr := B.returns
  have ht : ∀ w ∈ wsA, w.before _ s = true := fun w h => atoms_spec (ws := (Cond.code y_Po_wipe prog_4_method_2_code 1 none :: wsA)) B.pre w (List.mem_cons_of_mem _ h)
  have hown : s.vm.findClass "NetUnfolder$Possible" = some m.cls := findClass_of_methodNamed B.named
  have hlocks := B.notSynchronized
  subst hsz
  have hD := hD0.self (sz := s.heap.size)
  generalize hAe : va_A [(o0, .inr (5, [.ref f0, .int (nI oz), .ref o1, .ref o2, .ref o3]))] s.heap.size = A at hD ⊢
  have hA : ∀ q : Nat, s.heap.size ≤ q → A q := fun q h => by rw [← hAe]; exact Or.inr h
  have hS : va_S A s.heap s.heap [] := va_S.rf
  have hl := lv_entry ([.ref o0]) (n := 1) (Nat.le_of_ble_eq_true rfl)
  rw [lg_entry_eq]
  generalize (lg_sl ([.ref o0]) ++ List.replicate (1 - (lg_sl ([.ref o0])).length) Slot.unset).toArray = ls at hl ⊢
  replace hl : lv_has ls 1 [(0, .ref o0)] := hl
  refine W_Q (fun Q hQ => ?_)
  refine lv_aload_n hx hb d_Po_wipe_0 rfl (lv_at hl 0 rfl) ?_
  refine lv_iconst (v := 0) hx hb d_Po_wipe_1 (by decide) ?_
  refine va_put (D := (dC, dI)) (ci := 5) (v := .int 0) (ty := .int) (C := "NetUnfolder$Possible") (T := T_Po) (N := 5) hx hb ht in_Po ty_Po ok_Po nm_Po hown hK hP hD hS 0 rfl rfl 1 (by decide) (ht _ wd_1_165) (fun _ h9 => h9) rfl (by decide +kernel) rfl rfl (Nat.le_of_ble_eq_true rfl) d_Po_wipe_2 (fun H1 locs hPn hDn hSn => ?_)
  replace hP : va_P (dC, dI) clA [(o0, .inr (5, [.ref f0, .int 0, .ref o1, .ref o2, .ref o3]))] H1 := hPn
  replace hD : va_D A [(o0, .inr (5, [.ref f0, .int 0, .ref o1, .ref o2, .ref o3]))] := hDn
  replace hS := hSn
  clear hPn hDn hSn
  have hP9 := hP.sub (ws' := [(o0, .inr (5, [.ref f0, .int 0, .ref o1, .ref o2, .ref o3]))]) [0] rfl
  have hD9 := hD.sub (ws' := [(o0, .inr (5, [.ref f0, .int 0, .ref o1, .ref o2, .ref o3]))]) [0] (by decide) rfl
  subst hQ
  exact W.vret hx hb hr (fun t9 ht9 hW => ⟨⟨(), rfl, trivial, by rw [ht9]; exact hP9, hD9⟩, hS.F ht9⟩) hS.2.2 d_Po_wipe_5

set_option maxHeartbeats 4000000 in
set_option maxRecDepth 100000 in
theorem c_Po_tooMany (l : Launch) (dC : Nat → ClassId) (dI : Nat → Nat → Nat) (cI cL cZ : ClassId) (sz : Nat) (o0 : Nat) (o1 : Nat) (o2 : Nat) (o3 : Nat) (f0 : Nat) (oz : Nat) (hoz : oz ≤ 201) : Met l y_Po_tooMany (Cond.code y_Po_tooMany prog_4_method_3_code 1 (some .boolean) :: wsA) { frames := 0, cells := 0, slots := 0, locals := 0 } (va_Pc [.ref o0] (fun U => U.heap.size = sz ∧ va_P (dC, dI) clA [(o0, .inr (5, [.ref f0, .int (nI oz), .ref o1, .ref o2, .ref o3]))] U.heap ∧ va_K (dC, dI) clA [(cI, .int), (cL, .long), (cZ, .boolean)] U ∧ va_D (fun _ => True) [(o0, .inr (5, [.ref f0, .int (nI oz), .ref o1, .ref o2, .ref o3]))] ∧ NwA U)) (va_Qi (fun r (_ : Unit) => r = tooM oz) (fun _ t => va_P (dC, dI) clA [(o0, .inr (5, [.ref f0, .int (nI oz), .ref o1, .ref o2, .ref o3]))] t.heap ∧ va_D (va_A [(o0, .inr (5, [.ref f0, .int (nI oz), .ref o1, .ref o2, .ref o3]))] sz) [(o0, .inr (5, [.ref f0, .int (nI oz), .ref o1, .ref o2, .ref o3]))]) (va_A [(o0, .inr (5, [.ref f0, .int (nI oz), .ref o1, .ref o2, .ref o3]))] sz)) 0 0 (va_A [(o0, .inr (5, [.ref f0, .int (nI oz), .ref o1, .ref o2, .ref o3]))] sz) := by
  refine Met.ofW (cc := prog_4_method_3_code) (maxL := 1) (ret := (some .boolean)) (by decide) rfl ?_
  intro p e s m args below meth c s₁ B hml hv
  obtain ⟨rfl, hsz, hP, hK, hD0, hN⟩ := hv
  have hx := B.exec
  have hb := B.bytes
  have hr := B.returns
  have ht : ∀ w ∈ wsA, w.before _ s = true := fun w h => atoms_spec (ws := (Cond.code y_Po_tooMany prog_4_method_3_code 1 (some .boolean) :: wsA)) B.pre w (List.mem_cons_of_mem _ h)
  have hown : s.vm.findClass "NetUnfolder$Possible" = some m.cls := findClass_of_methodNamed B.named
  have hlocks := B.notSynchronized
  subst hsz
  have hD := hD0.self (sz := s.heap.size)
  generalize hAe : va_A [(o0, .inr (5, [.ref f0, .int (nI oz), .ref o1, .ref o2, .ref o3]))] s.heap.size = A at hD ⊢
  have hA : ∀ q : Nat, s.heap.size ≤ q → A q := fun q h => by rw [← hAe]; exact Or.inr h
  have hS : va_S A s.heap s.heap [] := va_S.rf
  have hl := lv_entry ([.ref o0]) (n := 1) (Nat.le_of_ble_eq_true rfl)
  rw [lg_entry_eq]
  generalize (lg_sl ([.ref o0]) ++ List.replicate (1 - (lg_sl ([.ref o0])).length) Slot.unset).toArray = ls at hl ⊢
  replace hl : lv_has ls 1 [(0, .ref o0)] := hl
  refine W_Q (fun Q hQ => ?_)
  refine lv_aload_n hx hb d_Po_tooMany_0 rfl (lv_at hl 0 rfl) ?_
  refine va_get (D := (dC, dI)) (ci := 5) (v := .int (nI oz)) (C := "NetUnfolder$Possible") (T := T_Po) (N := 5) hx hb ht in_Po hown hK hP 0 rfl rfl 1 (by decide) (ht _ wd_1_165) (fun _ h9 => h9) rfl d_Po_tooMany_1 ?_
  refine lv_sipush (v := 200) hx hb d_Po_tooMany_4 (by decide) ?_
  refine lv_icmp_le (tgt := 14) hx hb d_Po_tooMany_7 (by decide) (fun hb1 => ?_) (fun hb1 => ?_)
  · skip
    replace hb1 := cv_le (a := oz) (b := 200) (by omega) (by omega) hb1
    refine lv_iconst (v := 0) hx hb d_Po_tooMany_14 (by decide) ?_
    have hP9 := hP.sub (ws' := [(o0, .inr (5, [.ref f0, .int (nI oz), .ref o1, .ref o2, .ref o3]))]) [0] rfl
    have hD9 := hD.sub (ws' := [(o0, .inr (5, [.ref f0, .int (nI oz), .ref o1, .ref o2, .ref o3]))]) [0] (by decide) rfl
    subst hQ
    exact W.zret (v := 0) hx hb hr rfl (fun t9 ht9 hW => ⟨⟨0, (), rfl, (by unfold tooM; first | rw [if_pos (by omega)] | rw [if_neg (by omega)]), by rw [ht9]; exact hP9, hD9⟩, hS.F ht9⟩) hS.2.2 d_Po_tooMany_15
  · skip
    replace hb1 := cv_nle (a := oz) (b := 200) (by omega) (by omega) hb1
    refine lv_iconst (v := 1) hx hb d_Po_tooMany_10 (by decide) ?_
    refine lv_goto (tgt := 15) hx hb d_Po_tooMany_11 (by decide) ?_
    have hP9 := hP.sub (ws' := [(o0, .inr (5, [.ref f0, .int (nI oz), .ref o1, .ref o2, .ref o3]))]) [0] rfl
    have hD9 := hD.sub (ws' := [(o0, .inr (5, [.ref f0, .int (nI oz), .ref o1, .ref o2, .ref o3]))]) [0] (by decide) rfl
    subst hQ
    exact W.zret (v := 1) hx hb hr rfl (fun t9 ht9 hW => ⟨⟨1, (), rfl, (by unfold tooM; first | rw [if_pos (by omega)] | rw [if_neg (by omega)]), by rw [ht9]; exact hP9, hD9⟩, hS.F ht9⟩) hS.2.2 d_Po_tooMany_15
