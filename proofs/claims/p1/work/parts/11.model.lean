set_option maxHeartbeats 4000000 in
set_option maxRecDepth 100000 in
theorem c_Mo_thrown (l : Launch) (dC : Nat → ClassId) (dI : Nat → Nat → Nat) (cI cL cZ : ClassId) (sz : Nat) (h0 : Nat) (f0 : Int32) (f1 : Int32) (f2 : Nat) (f3 : Nat) (f4 : Int32) (f5 : Int32) (f6 : Nat) (f7 : Nat) (f8 : Nat) (f9 : Nat) (f10 : Int32) (f11 : Nat) (f12 : Nat) (f13 : Nat) (f14 : Nat) (f15 : Nat) (f16 : Nat) (f17 : Nat) (f18 : Int32) (f19 : Int32) (f20 : Nat) (f21 : Nat) (f22 : Int64) (f23 : Int32) (f24 : Int32) (f25 : Nat) (f26 : Int32) (f27 : Nat) : Met l y_Mo_thrown (Cond.code y_Mo_thrown prog_11_method_2_code 1 (some .int) :: wsA) { frames := 0, cells := 0, slots := 0, locals := 0 } (va_Pc [.ref h0] (fun U => U.heap.size = sz ∧ va_P (dC, dI) clA [(h0, .inr (9, [.int f0, .int f1, .ref f2, .ref f3, .int f4, .int f5, .ref f6, .ref f7, .ref f8, .ref f9, .int f10, .ref f11, .ref f12, .ref f13, .ref f14, .ref f15, .ref f16, .ref f17, .int f18, .int f19, .ref f20, .ref f21, .long f22, .int f23, .int f24, .ref f25, .int f26, .ref f27]))] U.heap ∧ va_K (dC, dI) clA [(cI, .int), (cL, .long), (cZ, .boolean)] U ∧ va_D (fun _ => True) [(h0, .inr (9, [.int f0, .int f1, .ref f2, .ref f3, .int f4, .int f5, .ref f6, .ref f7, .ref f8, .ref f9, .int f10, .ref f11, .ref f12, .ref f13, .ref f14, .ref f15, .ref f16, .ref f17, .int f18, .int f19, .ref f20, .ref f21, .long f22, .int f23, .int f24, .ref f25, .int f26, .ref f27]))] ∧ NwA U)) (va_Qi (fun r (_ : Unit) => r = f0) (fun _ t => va_P (dC, dI) clA [(h0, .inr (9, [.int f0, .int f1, .ref f2, .ref f3, .int f4, .int f5, .ref f6, .ref f7, .ref f8, .ref f9, .int f10, .ref f11, .ref f12, .ref f13, .ref f14, .ref f15, .ref f16, .ref f17, .int f18, .int f19, .ref f20, .ref f21, .long f22, .int f23, .int f24, .ref f25, .int f26, .ref f27]))] t.heap ∧ va_D (va_A [(h0, .inr (9, [.int f0, .int f1, .ref f2, .ref f3, .int f4, .int f5, .ref f6, .ref f7, .ref f8, .ref f9, .int f10, .ref f11, .ref f12, .ref f13, .ref f14, .ref f15, .ref f16, .ref f17, .int f18, .int f19, .ref f20, .ref f21, .long f22, .int f23, .int f24, .ref f25, .int f26, .ref f27]))] sz) [(h0, .inr (9, [.int f0, .int f1, .ref f2, .ref f3, .int f4, .int f5, .ref f6, .ref f7, .ref f8, .ref f9, .int f10, .ref f11, .ref f12, .ref f13, .ref f14, .ref f15, .ref f16, .ref f17, .int f18, .int f19, .ref f20, .ref f21, .long f22, .int f23, .int f24, .ref f25, .int f26, .ref f27]))]) (va_A [(h0, .inr (9, [.int f0, .int f1, .ref f2, .ref f3, .int f4, .int f5, .ref f6, .ref f7, .ref f8, .ref f9, .int f10, .ref f11, .ref f12, .ref f13, .ref f14, .ref f15, .ref f16, .ref f17, .int f18, .int f19, .ref f20, .ref f21, .long f22, .int f23, .int f24, .ref f25, .int f26, .ref f27]))] sz)) 0 0 (va_A [(h0, .inr (9, [.int f0, .int f1, .ref f2, .ref f3, .int f4, .int f5, .ref f6, .ref f7, .ref f8, .ref f9, .int f10, .ref f11, .ref f12, .ref f13, .ref f14, .ref f15, .ref f16, .ref f17, .int f18, .int f19, .ref f20, .ref f21, .long f22, .int f23, .int f24, .ref f25, .int f26, .ref f27]))] sz) := by
  refine Met.ofW (cc := prog_11_method_2_code) (maxL := 1) (ret := (some .int)) (by decide) rfl ?_
  intro p e s m args below meth c s₁ B hml hv
  obtain ⟨rfl, hsz, hP, hK, hD0, hN⟩ := hv
  have hx := B.exec
  have hb := B.bytes
  have hr := B.returns
  have ht : ∀ w ∈ wsA, w.before _ s = true := fun w h => atoms_spec (ws := (Cond.code y_Mo_thrown prog_11_method_2_code 1 (some .int) :: wsA)) B.pre w (List.mem_cons_of_mem _ h)
  have hown : s.vm.findClass "NetUnfolderModel" = some m.cls := findClass_of_methodNamed B.named
  have hlocks := B.notSynchronized
  subst hsz
  have hD := hD0.self (sz := s.heap.size)
  generalize hAe : va_A [(h0, .inr (9, [.int f0, .int f1, .ref f2, .ref f3, .int f4, .int f5, .ref f6, .ref f7, .ref f8, .ref f9, .int f10, .ref f11, .ref f12, .ref f13, .ref f14, .ref f15, .ref f16, .ref f17, .int f18, .int f19, .ref f20, .ref f21, .long f22, .int f23, .int f24, .ref f25, .int f26, .ref f27]))] s.heap.size = A at hD ⊢
  have hA : ∀ q : Nat, s.heap.size ≤ q → A q := fun q h => by rw [← hAe]; exact Or.inr h
  have hS : va_S A s.heap s.heap [] := va_S.rf
  have hl := lv_entry ([.ref h0]) (n := 1) (Nat.le_of_ble_eq_true rfl)
  rw [lg_entry_eq]
  generalize (lg_sl ([.ref h0]) ++ List.replicate (1 - (lg_sl ([.ref h0])).length) Slot.unset).toArray = ls at hl ⊢
  replace hl : lv_has ls 1 [(0, .ref h0)] := hl
  refine lv_aload_n hx hb d_Mo_thrown_0 rfl (lv_at hl 0 rfl) ?_
  refine va_get (D := (dC, dI)) (ci := 9) (v := .int f0) (C := "NetUnfolderModel") (T := T_Mo) (N := 28) hx hb ht in_Mo hown hK hP 0 rfl rfl 0 (by decide) (ht _ wd_4_0) (fun _ h9 => h9) rfl d_Mo_thrown_1 ?_
  have hP9 := hP.sub (ws' := [(h0, .inr (9, [.int f0, .int f1, .ref f2, .ref f3, .int f4, .int f5, .ref f6, .ref f7, .ref f8, .ref f9, .int f10, .ref f11, .ref f12, .ref f13, .ref f14, .ref f15, .ref f16, .ref f17, .int f18, .int f19, .ref f20, .ref f21, .long f22, .int f23, .int f24, .ref f25, .int f26, .ref f27]))]) [0] rfl
  have hD9 := hD.sub (ws' := [(h0, .inr (9, [.int f0, .int f1, .ref f2, .ref f3, .int f4, .int f5, .ref f6, .ref f7, .ref f8, .ref f9, .int f10, .ref f11, .ref f12, .ref f13, .ref f14, .ref f15, .ref f16, .ref f17, .int f18, .int f19, .ref f20, .ref f21, .long f22, .int f23, .int f24, .ref f25, .int f26, .ref f27]))]) [0] (by decide) rfl
  exact W.iret (v := f0) hx hb hr (fun t ht9 hW => ⟨⟨f0, (), rfl, rfl, by rw [ht9]; exact hP9, hD9⟩, hS.F ht9⟩) hS.2.2 d_Mo_thrown_4

set_option maxHeartbeats 4000000 in
set_option maxRecDepth 100000 in
theorem c_Mo_forget (l : Launch) (dC : Nat → ClassId) (dI : Nat → Nat → Nat) (cI cL cZ : ClassId) (sz : Nat) (h0 : Nat) (f0 : Int32) (f1 : Int32) (f2 : Nat) (f3 : Nat) (f4 : Int32) (f5 : Int32) (f6 : Nat) (f7 : Nat) (f8 : Nat) (f9 : Nat) (f10 : Int32) (f11 : Nat) (f12 : Nat) (f13 : Nat) (f14 : Nat) (f15 : Nat) (f16 : Nat) (f17 : Nat) (f18 : Int32) (f19 : Int32) (f20 : Nat) (f21 : Nat) (f22 : Int64) (f23 : Int32) (f24 : Int32) (f25 : Nat) (f26 : Int32) (f27 : Nat) : Met l y_Mo_forget (Cond.code y_Mo_forget prog_11_method_6_code 1 none :: wsA) { frames := 0, cells := 0, slots := 0, locals := 0 } (va_Pc [.ref h0] (fun U => U.heap.size = sz ∧ va_P (dC, dI) clA [(h0, .inr (9, [.int f0, .int f1, .ref f2, .ref f3, .int f4, .int f5, .ref f6, .ref f7, .ref f8, .ref f9, .int f10, .ref f11, .ref f12, .ref f13, .ref f14, .ref f15, .ref f16, .ref f17, .int f18, .int f19, .ref f20, .ref f21, .long f22, .int f23, .int f24, .ref f25, .int f26, .ref f27]))] U.heap ∧ va_K (dC, dI) clA [(cI, .int), (cL, .long), (cZ, .boolean)] U ∧ va_D (fun _ => True) [(h0, .inr (9, [.int f0, .int f1, .ref f2, .ref f3, .int f4, .int f5, .ref f6, .ref f7, .ref f8, .ref f9, .int f10, .ref f11, .ref f12, .ref f13, .ref f14, .ref f15, .ref f16, .ref f17, .int f18, .int f19, .ref f20, .ref f21, .long f22, .int f23, .int f24, .ref f25, .int f26, .ref f27]))] ∧ NwA U)) (va_Qv (fun _ : Unit => True) (fun _ t => va_P (dC, dI) clA [(h0, .inr (9, [.int f0, .int f1, .ref f2, .ref f3, .int f4, .int 0, .ref f6, .ref f7, .ref f8, .ref f9, .int 0, .ref f11, .ref f12, .ref f13, .ref f14, .ref f15, .ref f16, .ref f17, .int 0, .int f19, .ref f20, .ref f21, .long f22, .int f23, .int f24, .ref f25, .int (-1), .ref f27]))] t.heap ∧ va_D (va_A [(h0, .inr (9, [.int f0, .int f1, .ref f2, .ref f3, .int f4, .int f5, .ref f6, .ref f7, .ref f8, .ref f9, .int f10, .ref f11, .ref f12, .ref f13, .ref f14, .ref f15, .ref f16, .ref f17, .int f18, .int f19, .ref f20, .ref f21, .long f22, .int f23, .int f24, .ref f25, .int f26, .ref f27]))] sz) [(h0, .inr (9, [.int f0, .int f1, .ref f2, .ref f3, .int f4, .int 0, .ref f6, .ref f7, .ref f8, .ref f9, .int 0, .ref f11, .ref f12, .ref f13, .ref f14, .ref f15, .ref f16, .ref f17, .int 0, .int f19, .ref f20, .ref f21, .long f22, .int f23, .int f24, .ref f25, .int (-1), .ref f27]))]) (va_A [(h0, .inr (9, [.int f0, .int f1, .ref f2, .ref f3, .int f4, .int f5, .ref f6, .ref f7, .ref f8, .ref f9, .int f10, .ref f11, .ref f12, .ref f13, .ref f14, .ref f15, .ref f16, .ref f17, .int f18, .int f19, .ref f20, .ref f21, .long f22, .int f23, .int f24, .ref f25, .int f26, .ref f27]))] sz)) 0 0 (va_A [(h0, .inr (9, [.int f0, .int f1, .ref f2, .ref f3, .int f4, .int f5, .ref f6, .ref f7, .ref f8, .ref f9, .int f10, .ref f11, .ref f12, .ref f13, .ref f14, .ref f15, .ref f16, .ref f17, .int f18, .int f19, .ref f20, .ref f21, .long f22, .int f23, .int f24, .ref f25, .int f26, .ref f27]))] sz) := by
  refine Met.ofW (cc := prog_11_method_6_code) (maxL := 1) (ret := none) (by decide) rfl ?_
  intro p e s m args below meth c s₁ B hml hv
  obtain ⟨rfl, hsz, hP, hK, hD0, hN⟩ := hv
  have hx := B.exec
  have hb := B.bytes
  have hr := B.returns
  have ht : ∀ w ∈ wsA, w.before _ s = true := fun w h => atoms_spec (ws := (Cond.code y_Mo_forget prog_11_method_6_code 1 none :: wsA)) B.pre w (List.mem_cons_of_mem _ h)
  have hown : s.vm.findClass "NetUnfolderModel" = some m.cls := findClass_of_methodNamed B.named
  have hlocks := B.notSynchronized
  subst hsz
  have hD := hD0.self (sz := s.heap.size)
  generalize hAe : va_A [(h0, .inr (9, [.int f0, .int f1, .ref f2, .ref f3, .int f4, .int f5, .ref f6, .ref f7, .ref f8, .ref f9, .int f10, .ref f11, .ref f12, .ref f13, .ref f14, .ref f15, .ref f16, .ref f17, .int f18, .int f19, .ref f20, .ref f21, .long f22, .int f23, .int f24, .ref f25, .int f26, .ref f27]))] s.heap.size = A at hD ⊢
  have hA : ∀ q : Nat, s.heap.size ≤ q → A q := fun q h => by rw [← hAe]; exact Or.inr h
  have hS : va_S A s.heap s.heap [] := va_S.rf
  have hl := lv_entry ([.ref h0]) (n := 1) (Nat.le_of_ble_eq_true rfl)
  rw [lg_entry_eq]
  generalize (lg_sl ([.ref h0]) ++ List.replicate (1 - (lg_sl ([.ref h0])).length) Slot.unset).toArray = ls at hl ⊢
  replace hl : lv_has ls 1 [(0, .ref h0)] := hl
  refine lv_aload_n hx hb d_Mo_forget_0 rfl (lv_at hl 0 rfl) ?_
  refine lv_iconst (v := 0) hx hb d_Mo_forget_1 (by decide) ?_
  refine va_put (D := (dC, dI)) (ci := 9) (v := .int 0) (ty := .int) (C := "NetUnfolderModel") (T := T_Mo) (N := 28) hx hb ht in_Mo ty_Mo ok_Mo nm_Mo hown hK hP hD hS 0 rfl rfl 10 (by decide) (ht _ wd_4_10) (fun _ h9 => h9) rfl (by decide +kernel) rfl rfl (Nat.le_of_ble_eq_true rfl) d_Mo_forget_2 (fun H1 locs hPn hDn hSn => ?_)
  replace hP : va_P (dC, dI) clA [(h0, .inr (9, [.int f0, .int f1, .ref f2, .ref f3, .int f4, .int f5, .ref f6, .ref f7, .ref f8, .ref f9, .int 0, .ref f11, .ref f12, .ref f13, .ref f14, .ref f15, .ref f16, .ref f17, .int f18, .int f19, .ref f20, .ref f21, .long f22, .int f23, .int f24, .ref f25, .int f26, .ref f27]))] H1 := hPn
  replace hD : va_D A [(h0, .inr (9, [.int f0, .int f1, .ref f2, .ref f3, .int f4, .int f5, .ref f6, .ref f7, .ref f8, .ref f9, .int 0, .ref f11, .ref f12, .ref f13, .ref f14, .ref f15, .ref f16, .ref f17, .int f18, .int f19, .ref f20, .ref f21, .long f22, .int f23, .int f24, .ref f25, .int f26, .ref f27]))] := hDn
  replace hS := hSn
  clear hPn hDn hSn
  refine lv_aload_n hx hb d_Mo_forget_5 rfl (lv_at hl 0 rfl) ?_
  refine lv_iconst (v := 0) hx hb d_Mo_forget_6 (by decide) ?_
  refine va_put (D := (dC, dI)) (ci := 9) (v := .int 0) (ty := .int) (C := "NetUnfolderModel") (T := T_Mo) (N := 28) hx hb ht in_Mo ty_Mo ok_Mo nm_Mo hown hK hP hD hS 0 rfl rfl 5 (by decide) (ht _ wd_4_5) (fun _ h9 => h9) rfl (by decide +kernel) rfl rfl (Nat.le_of_ble_eq_true rfl) d_Mo_forget_7 (fun H2 locs hPn hDn hSn => ?_)
  replace hP : va_P (dC, dI) clA [(h0, .inr (9, [.int f0, .int f1, .ref f2, .ref f3, .int f4, .int 0, .ref f6, .ref f7, .ref f8, .ref f9, .int 0, .ref f11, .ref f12, .ref f13, .ref f14, .ref f15, .ref f16, .ref f17, .int f18, .int f19, .ref f20, .ref f21, .long f22, .int f23, .int f24, .ref f25, .int f26, .ref f27]))] H2 := hPn
  replace hD : va_D A [(h0, .inr (9, [.int f0, .int f1, .ref f2, .ref f3, .int f4, .int 0, .ref f6, .ref f7, .ref f8, .ref f9, .int 0, .ref f11, .ref f12, .ref f13, .ref f14, .ref f15, .ref f16, .ref f17, .int f18, .int f19, .ref f20, .ref f21, .long f22, .int f23, .int f24, .ref f25, .int f26, .ref f27]))] := hDn
  replace hS := hSn
  clear hPn hDn hSn
  refine lv_aload_n hx hb d_Mo_forget_10 rfl (lv_at hl 0 rfl) ?_
  refine lv_iconst (v := 0) hx hb d_Mo_forget_11 (by decide) ?_
  refine va_put (D := (dC, dI)) (ci := 9) (v := .int 0) (ty := .boolean) (C := "NetUnfolderModel") (T := T_Mo) (N := 28) hx hb ht in_Mo ty_Mo ok_Mo nm_Mo hown hK hP hD hS 0 rfl rfl 18 (by decide) (ht _ wd_4_18) (fun _ h9 => h9) rfl (by decide +kernel) rfl rfl (Nat.le_of_ble_eq_true rfl) d_Mo_forget_12 (fun H3 locs hPn hDn hSn => ?_)
  replace hP : va_P (dC, dI) clA [(h0, .inr (9, [.int f0, .int f1, .ref f2, .ref f3, .int f4, .int 0, .ref f6, .ref f7, .ref f8, .ref f9, .int 0, .ref f11, .ref f12, .ref f13, .ref f14, .ref f15, .ref f16, .ref f17, .int 0, .int f19, .ref f20, .ref f21, .long f22, .int f23, .int f24, .ref f25, .int f26, .ref f27]))] H3 := hPn
  replace hD : va_D A [(h0, .inr (9, [.int f0, .int f1, .ref f2, .ref f3, .int f4, .int 0, .ref f6, .ref f7, .ref f8, .ref f9, .int 0, .ref f11, .ref f12, .ref f13, .ref f14, .ref f15, .ref f16, .ref f17, .int 0, .int f19, .ref f20, .ref f21, .long f22, .int f23, .int f24, .ref f25, .int f26, .ref f27]))] := hDn
  replace hS := hSn
  clear hPn hDn hSn
  refine lv_aload_n hx hb d_Mo_forget_15 rfl (lv_at hl 0 rfl) ?_
  refine lv_iconst (v := (-1)) hx hb d_Mo_forget_16 (by decide) ?_
  refine va_put (D := (dC, dI)) (ci := 9) (v := .int (-1)) (ty := .int) (C := "NetUnfolderModel") (T := T_Mo) (N := 28) hx hb ht in_Mo ty_Mo ok_Mo nm_Mo hown hK hP hD hS 0 rfl rfl 26 (by decide) (ht _ wd_4_26) (fun _ h9 => h9) rfl (by decide +kernel) rfl rfl (Nat.le_of_ble_eq_true rfl) d_Mo_forget_17 (fun H4 locs hPn hDn hSn => ?_)
  replace hP : va_P (dC, dI) clA [(h0, .inr (9, [.int f0, .int f1, .ref f2, .ref f3, .int f4, .int 0, .ref f6, .ref f7, .ref f8, .ref f9, .int 0, .ref f11, .ref f12, .ref f13, .ref f14, .ref f15, .ref f16, .ref f17, .int 0, .int f19, .ref f20, .ref f21, .long f22, .int f23, .int f24, .ref f25, .int (-1), .ref f27]))] H4 := hPn
  replace hD : va_D A [(h0, .inr (9, [.int f0, .int f1, .ref f2, .ref f3, .int f4, .int 0, .ref f6, .ref f7, .ref f8, .ref f9, .int 0, .ref f11, .ref f12, .ref f13, .ref f14, .ref f15, .ref f16, .ref f17, .int 0, .int f19, .ref f20, .ref f21, .long f22, .int f23, .int f24, .ref f25, .int (-1), .ref f27]))] := hDn
  replace hS := hSn
  clear hPn hDn hSn
  have hP9 := hP.sub (ws' := [(h0, .inr (9, [.int f0, .int f1, .ref f2, .ref f3, .int f4, .int 0, .ref f6, .ref f7, .ref f8, .ref f9, .int 0, .ref f11, .ref f12, .ref f13, .ref f14, .ref f15, .ref f16, .ref f17, .int 0, .int f19, .ref f20, .ref f21, .long f22, .int f23, .int f24, .ref f25, .int (-1), .ref f27]))]) [0] rfl
  have hD9 := hD.sub (ws' := [(h0, .inr (9, [.int f0, .int f1, .ref f2, .ref f3, .int f4, .int 0, .ref f6, .ref f7, .ref f8, .ref f9, .int 0, .ref f11, .ref f12, .ref f13, .ref f14, .ref f15, .ref f16, .ref f17, .int 0, .int f19, .ref f20, .ref f21, .long f22, .int f23, .int f24, .ref f25, .int (-1), .ref f27]))]) [0] (by decide) rfl
  exact W.vret hx hb hr (fun t ht9 hW => ⟨⟨(), rfl, trivial, by rw [ht9]; exact hP9, hD9⟩, hS.F ht9⟩) hS.2.2 d_Mo_forget_20

set_option maxHeartbeats 4000000 in
set_option maxRecDepth 100000 in
theorem c_Mo_refuse (l : Launch) (dC : Nat → ClassId) (dI : Nat → Nat → Nat) (cI cL cZ : ClassId) (sz : Nat) (h0 : Nat) (f0 : Int32) (f1 : Int32) (f2 : Nat) (f3 : Nat) (f4 : Int32) (f5 : Int32) (f6 : Nat) (f7 : Nat) (f8 : Nat) (f9 : Nat) (f10 : Int32) (f11 : Nat) (f12 : Nat) (f13 : Nat) (f14 : Nat) (f15 : Nat) (f16 : Nat) (f17 : Nat) (f18 : Int32) (f19 : Int32) (f20 : Nat) (f21 : Nat) (f22 : Int64) (f23 : Int32) (f24 : Int32) (f25 : Nat) (f26 : Int32) (f27 : Nat) (k0 : Int32) : Met l y_Mo_refuse (Cond.code y_Mo_refuse prog_11_method_3_code 2 (some .int) :: wsA) { frames := 0, cells := 0, slots := 0, locals := 0 } (va_Pc [.ref h0, .int k0] (fun U => U.heap.size = sz ∧ va_P (dC, dI) clA [(h0, .inr (9, [.int f0, .int f1, .ref f2, .ref f3, .int f4, .int f5, .ref f6, .ref f7, .ref f8, .ref f9, .int f10, .ref f11, .ref f12, .ref f13, .ref f14, .ref f15, .ref f16, .ref f17, .int f18, .int f19, .ref f20, .ref f21, .long f22, .int f23, .int f24, .ref f25, .int f26, .ref f27]))] U.heap ∧ va_K (dC, dI) clA [(cI, .int), (cL, .long), (cZ, .boolean)] U ∧ va_D (fun _ => True) [(h0, .inr (9, [.int f0, .int f1, .ref f2, .ref f3, .int f4, .int f5, .ref f6, .ref f7, .ref f8, .ref f9, .int f10, .ref f11, .ref f12, .ref f13, .ref f14, .ref f15, .ref f16, .ref f17, .int f18, .int f19, .ref f20, .ref f21, .long f22, .int f23, .int f24, .ref f25, .int f26, .ref f27]))] ∧ NwA U)) (va_Qi (fun r (_ : Unit) => r = 0) (fun _ t => va_P (dC, dI) clA [(h0, .inr (9, [.int k0, .int f1, .ref f2, .ref f3, .int f4, .int f5, .ref f6, .ref f7, .ref f8, .ref f9, .int f10, .ref f11, .ref f12, .ref f13, .ref f14, .ref f15, .ref f16, .ref f17, .int f18, .int f19, .ref f20, .ref f21, .long f22, .int f23, .int f24, .ref f25, .int f26, .ref f27]))] t.heap ∧ va_D (va_A [(h0, .inr (9, [.int f0, .int f1, .ref f2, .ref f3, .int f4, .int f5, .ref f6, .ref f7, .ref f8, .ref f9, .int f10, .ref f11, .ref f12, .ref f13, .ref f14, .ref f15, .ref f16, .ref f17, .int f18, .int f19, .ref f20, .ref f21, .long f22, .int f23, .int f24, .ref f25, .int f26, .ref f27]))] sz) [(h0, .inr (9, [.int k0, .int f1, .ref f2, .ref f3, .int f4, .int f5, .ref f6, .ref f7, .ref f8, .ref f9, .int f10, .ref f11, .ref f12, .ref f13, .ref f14, .ref f15, .ref f16, .ref f17, .int f18, .int f19, .ref f20, .ref f21, .long f22, .int f23, .int f24, .ref f25, .int f26, .ref f27]))]) (va_A [(h0, .inr (9, [.int f0, .int f1, .ref f2, .ref f3, .int f4, .int f5, .ref f6, .ref f7, .ref f8, .ref f9, .int f10, .ref f11, .ref f12, .ref f13, .ref f14, .ref f15, .ref f16, .ref f17, .int f18, .int f19, .ref f20, .ref f21, .long f22, .int f23, .int f24, .ref f25, .int f26, .ref f27]))] sz)) 0 0 (va_A [(h0, .inr (9, [.int f0, .int f1, .ref f2, .ref f3, .int f4, .int f5, .ref f6, .ref f7, .ref f8, .ref f9, .int f10, .ref f11, .ref f12, .ref f13, .ref f14, .ref f15, .ref f16, .ref f17, .int f18, .int f19, .ref f20, .ref f21, .long f22, .int f23, .int f24, .ref f25, .int f26, .ref f27]))] sz) := by
  refine Met.ofW (cc := prog_11_method_3_code) (maxL := 2) (ret := (some .int)) (by decide) rfl ?_
  intro p e s m args below meth c s₁ B hml hv
  obtain ⟨rfl, hsz, hP, hK, hD0, hN⟩ := hv
  have hx := B.exec
  have hb := B.bytes
  have hr := B.returns
  have ht : ∀ w ∈ wsA, w.before _ s = true := fun w h => atoms_spec (ws := (Cond.code y_Mo_refuse prog_11_method_3_code 2 (some .int) :: wsA)) B.pre w (List.mem_cons_of_mem _ h)
  have hown : s.vm.findClass "NetUnfolderModel" = some m.cls := findClass_of_methodNamed B.named
  have hlocks := B.notSynchronized
  subst hsz
  have hD := hD0.self (sz := s.heap.size)
  generalize hAe : va_A [(h0, .inr (9, [.int f0, .int f1, .ref f2, .ref f3, .int f4, .int f5, .ref f6, .ref f7, .ref f8, .ref f9, .int f10, .ref f11, .ref f12, .ref f13, .ref f14, .ref f15, .ref f16, .ref f17, .int f18, .int f19, .ref f20, .ref f21, .long f22, .int f23, .int f24, .ref f25, .int f26, .ref f27]))] s.heap.size = A at hD ⊢
  have hA : ∀ q : Nat, s.heap.size ≤ q → A q := fun q h => by rw [← hAe]; exact Or.inr h
  have hS : va_S A s.heap s.heap [] := va_S.rf
  have hl := lv_entry ([.ref h0, .int k0]) (n := 2) (Nat.le_of_ble_eq_true rfl)
  rw [lg_entry_eq]
  generalize (lg_sl ([.ref h0, .int k0]) ++ List.replicate (2 - (lg_sl ([.ref h0, .int k0])).length) Slot.unset).toArray = ls at hl ⊢
  replace hl : lv_has ls 2 [(0, .ref h0), (1, .int k0)] := hl
  refine lv_aload_n hx hb d_Mo_refuse_0 rfl (lv_at hl 0 rfl) ?_
  refine lv_iload_n hx hb d_Mo_refuse_1 rfl (lv_at hl 1 rfl) ?_
  refine va_put (D := (dC, dI)) (ci := 9) (v := .int k0) (ty := .int) (C := "NetUnfolderModel") (T := T_Mo) (N := 28) hx hb ht in_Mo ty_Mo ok_Mo nm_Mo hown hK hP hD hS 0 rfl rfl 0 (by decide) (ht _ wd_4_0) (fun _ h9 => h9) rfl (by decide +kernel) rfl rfl (Nat.le_of_ble_eq_true rfl) d_Mo_refuse_2 (fun H1 locs hPn hDn hSn => ?_)
  replace hP : va_P (dC, dI) clA [(h0, .inr (9, [.int k0, .int f1, .ref f2, .ref f3, .int f4, .int f5, .ref f6, .ref f7, .ref f8, .ref f9, .int f10, .ref f11, .ref f12, .ref f13, .ref f14, .ref f15, .ref f16, .ref f17, .int f18, .int f19, .ref f20, .ref f21, .long f22, .int f23, .int f24, .ref f25, .int f26, .ref f27]))] H1 := hPn
  replace hD : va_D A [(h0, .inr (9, [.int k0, .int f1, .ref f2, .ref f3, .int f4, .int f5, .ref f6, .ref f7, .ref f8, .ref f9, .int f10, .ref f11, .ref f12, .ref f13, .ref f14, .ref f15, .ref f16, .ref f17, .int f18, .int f19, .ref f20, .ref f21, .long f22, .int f23, .int f24, .ref f25, .int f26, .ref f27]))] := hDn
  replace hS := hSn
  clear hPn hDn hSn
  refine lv_iconst (v := 0) hx hb d_Mo_refuse_5 (by decide) ?_
  have hP9 := hP.sub (ws' := [(h0, .inr (9, [.int k0, .int f1, .ref f2, .ref f3, .int f4, .int f5, .ref f6, .ref f7, .ref f8, .ref f9, .int f10, .ref f11, .ref f12, .ref f13, .ref f14, .ref f15, .ref f16, .ref f17, .int f18, .int f19, .ref f20, .ref f21, .long f22, .int f23, .int f24, .ref f25, .int f26, .ref f27]))]) [0] rfl
  have hD9 := hD.sub (ws' := [(h0, .inr (9, [.int k0, .int f1, .ref f2, .ref f3, .int f4, .int f5, .ref f6, .ref f7, .ref f8, .ref f9, .int f10, .ref f11, .ref f12, .ref f13, .ref f14, .ref f15, .ref f16, .ref f17, .int f18, .int f19, .ref f20, .ref f21, .long f22, .int f23, .int f24, .ref f25, .int f26, .ref f27]))]) [0] (by decide) rfl
  exact W.iret (v := 0) hx hb hr (fun t ht9 hW => ⟨⟨0, (), rfl, rfl, by rw [ht9]; exact hP9, hD9⟩, hS.F ht9⟩) hS.2.2 d_Mo_refuse_6

set_option maxHeartbeats 4000000 in
set_option maxRecDepth 100000 in
theorem c_Mo_transition_ok (l : Launch) (dC : Nat → ClassId) (dI : Nat → Nat → Nat) (cI cL cZ : ClassId) (sz : Nat) (b0 : Nat) (b1 : Nat) (b2 : Nat) (b3 : Nat) (b4 : Nat) (b5 : Nat) (b6 : Nat) (b7 : Nat) (b8 : Nat) (b9 : Nat) (b10 : Nat) (b11 : Nat) (b12 : Nat) (b13 : Nat) (b14 : Nat) (b15 : Nat) (b16 : Nat) (b17 : Nat) (k0 : Int32) (k1 : Int32) (h1 : ¬ k0 < 1) (h2 : ¬ 255 < k0) (h3 : ¬ k1 < 0) (h4 : ¬ 255 < k1) : Met l y_Mo_transition (Cond.code y_Mo_transition prog_11_method_7_code 3 (some .int) :: wsA) { frames := 1, cells := 0, slots := 0, locals := 22 } (va_Pc [.ref b0, .int k0, .int k1] (fun U => U.heap.size = sz ∧ va_P (dC, dI) clA [(b0, .inr (9, [.int 0, .int 0, .ref b1, .ref b2, .int 0, .int 0, .ref b3, .ref b4, .ref b5, .ref b6, .int 0, .ref b7, .ref b8, .ref b9, .ref b10, .ref b11, .ref b12, .ref b13, .int 0, .int 0, .ref b14, .ref b15, .long 0, .int 0, .int 0, .ref b16, .int (-1), .ref b17])), (b1, .inl (cI, 8, .inl (fun _ => 0))), (b2, .inl (cI, 8, .inl (fun _ => 0)))] U.heap ∧ va_K (dC, dI) clA [(cI, .int), (cL, .long), (cZ, .boolean)] U ∧ va_D (fun _ => True) [(b0, .inr (9, [.int 0, .int 0, .ref b1, .ref b2, .int 0, .int 0, .ref b3, .ref b4, .ref b5, .ref b6, .int 0, .ref b7, .ref b8, .ref b9, .ref b10, .ref b11, .ref b12, .ref b13, .int 0, .int 0, .ref b14, .ref b15, .long 0, .int 0, .int 0, .ref b16, .int (-1), .ref b17])), (b1, .inl (cI, 8, .inl (fun _ => 0))), (b2, .inl (cI, 8, .inl (fun _ => 0)))] ∧ NwA U)) (va_Qi (fun r (_ : Unit) => r = 0) (fun _ t => va_P (dC, dI) clA [(b1, .inl (cI, 8, .inl (upd (fun _ => 0) (0 : Int32).toNatClampNeg k0))), (b2, .inl (cI, 8, .inl (upd (fun _ => 0) (0 : Int32).toNatClampNeg k1))), (b0, .inr (9, [.int 0, .int 1, .ref b1, .ref b2, .int 0, .int 0, .ref b3, .ref b4, .ref b5, .ref b6, .int 0, .ref b7, .ref b8, .ref b9, .ref b10, .ref b11, .ref b12, .ref b13, .int 0, .int 0, .ref b14, .ref b15, .long 0, .int 0, .int 0, .ref b16, .int (-1), .ref b17]))] t.heap ∧ va_D (va_A [(b0, .inr (9, [.int 0, .int 0, .ref b1, .ref b2, .int 0, .int 0, .ref b3, .ref b4, .ref b5, .ref b6, .int 0, .ref b7, .ref b8, .ref b9, .ref b10, .ref b11, .ref b12, .ref b13, .int 0, .int 0, .ref b14, .ref b15, .long 0, .int 0, .int 0, .ref b16, .int (-1), .ref b17])), (b1, .inl (cI, 8, .inl (fun _ => 0))), (b2, .inl (cI, 8, .inl (fun _ => 0)))] sz) [(b1, .inl (cI, 8, .inl (upd (fun _ => 0) (0 : Int32).toNatClampNeg k0))), (b2, .inl (cI, 8, .inl (upd (fun _ => 0) (0 : Int32).toNatClampNeg k1))), (b0, .inr (9, [.int 0, .int 1, .ref b1, .ref b2, .int 0, .int 0, .ref b3, .ref b4, .ref b5, .ref b6, .int 0, .ref b7, .ref b8, .ref b9, .ref b10, .ref b11, .ref b12, .ref b13, .int 0, .int 0, .ref b14, .ref b15, .long 0, .int 0, .int 0, .ref b16, .int (-1), .ref b17]))]) (va_A [(b0, .inr (9, [.int 0, .int 0, .ref b1, .ref b2, .int 0, .int 0, .ref b3, .ref b4, .ref b5, .ref b6, .int 0, .ref b7, .ref b8, .ref b9, .ref b10, .ref b11, .ref b12, .ref b13, .int 0, .int 0, .ref b14, .ref b15, .long 0, .int 0, .int 0, .ref b16, .int (-1), .ref b17])), (b1, .inl (cI, 8, .inl (fun _ => 0))), (b2, .inl (cI, 8, .inl (fun _ => 0)))] sz)) 0 0 (va_A [(b0, .inr (9, [.int 0, .int 0, .ref b1, .ref b2, .int 0, .int 0, .ref b3, .ref b4, .ref b5, .ref b6, .int 0, .ref b7, .ref b8, .ref b9, .ref b10, .ref b11, .ref b12, .ref b13, .int 0, .int 0, .ref b14, .ref b15, .long 0, .int 0, .int 0, .ref b16, .int (-1), .ref b17])), (b1, .inl (cI, 8, .inl (fun _ => 0))), (b2, .inl (cI, 8, .inl (fun _ => 0)))] sz) := by
  refine Met.ofW (cc := prog_11_method_7_code) (maxL := 3) (ret := (some .int)) (by decide) rfl ?_
  intro p e s m args below meth c s₁ B hml hv
  obtain ⟨rfl, hsz, hP, hK, hD0, hN⟩ := hv
  have hx := B.exec
  have hb := B.bytes
  have hr := B.returns
  have ht : ∀ w ∈ wsA, w.before _ s = true := fun w h => atoms_spec (ws := (Cond.code y_Mo_transition prog_11_method_7_code 3 (some .int) :: wsA)) B.pre w (List.mem_cons_of_mem _ h)
  have hown : s.vm.findClass "NetUnfolderModel" = some m.cls := findClass_of_methodNamed B.named
  have hlocks := B.notSynchronized
  subst hsz
  have hD := hD0.self (sz := s.heap.size)
  generalize hAe : va_A [(b0, .inr (9, [.int 0, .int 0, .ref b1, .ref b2, .int 0, .int 0, .ref b3, .ref b4, .ref b5, .ref b6, .int 0, .ref b7, .ref b8, .ref b9, .ref b10, .ref b11, .ref b12, .ref b13, .int 0, .int 0, .ref b14, .ref b15, .long 0, .int 0, .int 0, .ref b16, .int (-1), .ref b17])), (b1, .inl (cI, 8, .inl (fun _ => 0))), (b2, .inl (cI, 8, .inl (fun _ => 0)))] s.heap.size = A at hD ⊢
  have hA : ∀ q : Nat, s.heap.size ≤ q → A q := fun q h => by rw [← hAe]; exact Or.inr h
  have hS : va_S A s.heap s.heap [] := va_S.rf
  have hl := lv_entry ([.ref b0, .int k0, .int k1]) (n := 3) (Nat.le_of_ble_eq_true rfl)
  rw [lg_entry_eq]
  generalize (lg_sl ([.ref b0, .int k0, .int k1]) ++ List.replicate (3 - (lg_sl ([.ref b0, .int k0, .int k1])).length) Slot.unset).toArray = ls at hl ⊢
  replace hl : lv_has ls 3 [(0, .ref b0), (1, .int k0), (2, .int k1)] := hl
  refine lv_aload_n hx hb d_Mo_transition_0 rfl (lv_at hl 0 rfl) ?_
  refine lv_iload_n hx hb d_Mo_transition_1 rfl (lv_at hl 1 rfl) ?_
  refine lv_iconst (v := 1) hx hb d_Mo_transition_2 (by decide) ?_
  refine lv_sipush (v := 255) hx hb d_Mo_transition_3 (by decide) ?_
  have hPc : va_P (dC, dI) clA [] _ := pu_P (H := s.heap)
  have hDc : va_D (fun _ => True) [] := pu_D
  have hFc := pu_free hS hA
  refine va_calli (va_runS (As := [.int k0, .int 1, .int 255]) (rest := [.ref b0]) ⟨hx, hb, hml, hown, ht⟩ (c_Mo_outside_1_255_ok l dC dI cI cL cZ _ k0 h1 h2) (va_cwS 3 ht (good_S wd_4_94 wd_4_95 wd_1_10 wd_4_96) rfl rfl rfl (by decide +kernel) ⟨Nat.le_of_ble_eq_true rfl, Nat.le_of_ble_eq_true rfl⟩) ⟨fun a U g mk q => by obtain ⟨q0, q1, qP, qK, qD, qN⟩ := q; exact ⟨q0, q1, qP, va_K.moved (u := U) (U := U.calling g mk a) (Vm.Alike.refl U.vm) qK, qD, NwA.same (u := U) rfl qN⟩, fun U hU hW => ⟨rfl, by rw [hU], by rw [hU]; exact hPc, va_K.moved hW.alike hK, hDc.weaken (fun _ _ _ _ => trivial), NwA.warm hW hN⟩⟩ rfl rfl hl.1 rfl (lv_room (Nat.le_of_ble_eq_true rfl)) d_Mo_transition_6 ⟨Nat.le_of_ble_eq_true rfl, Nat.le_of_ble_eq_true rfl⟩) hS (fun q _ h => hFc q h) hFc (fun r9 u t H1 locs ht9 hvm hw2 hB hz1 hk1 hSn => ?_)
  replace hP : va_P (dC, dI) clA [(b0, .inr (9, [.int 0, .int 0, .ref b1, .ref b2, .int 0, .int 0, .ref b3, .ref b4, .ref b5, .ref b6, .int 0, .ref b7, .ref b8, .ref b9, .ref b10, .ref b11, .ref b12, .ref b13, .int 0, .int 0, .ref b14, .ref b15, .long 0, .int 0, .int 0, .ref b16, .int (-1), .ref b17])), (b1, .inl (cI, 8, .inl (fun _ => 0))), (b2, .inl (cI, 8, .inl (fun _ => 0)))] H1 := pu_keep hP hk1
  replace hS := hSn
  clear hSn hPc hDc hFc hk1 hz1 ht9 hvm hB
  refine W.cs (cells' := 0) (slots' := 0) rfl rfl ?_
  subst hw2
  refine lv_if_ne (tgt := 23) hx hb d_Mo_transition_9 (by decide) (fun h => (h (by decide)).elim) (fun _ => ?_)
  refine lv_iload_n hx hb d_Mo_transition_12 rfl (lv_at hl 2 rfl) ?_
  refine lv_iconst (v := 0) hx hb d_Mo_transition_13 (by decide) ?_
  refine lv_sipush (v := 255) hx hb d_Mo_transition_14 (by decide) ?_
  have hPc : va_P (dC, dI) clA [] _ := pu_P (H := H1)
  have hDc : va_D (fun _ => True) [] := pu_D
  have hFc := pu_free hS hA
  refine va_calli (va_runS (As := [.int k1, .int 0, .int 255]) (rest := [.ref b0]) ⟨hx, hb, hml, hown, ht⟩ (c_Mo_outside_0_255_ok l dC dI cI cL cZ _ k1 h3 h4) (va_cwS 3 ht (good_S wd_4_94 wd_4_95 wd_1_10 wd_4_96) rfl rfl rfl (by decide +kernel) ⟨Nat.le_of_ble_eq_true rfl, Nat.le_of_ble_eq_true rfl⟩) ⟨fun a U g mk q => by obtain ⟨q0, q1, qP, qK, qD, qN⟩ := q; exact ⟨q0, q1, qP, va_K.moved (u := U) (U := U.calling g mk a) (Vm.Alike.refl U.vm) qK, qD, NwA.same (u := U) rfl qN⟩, fun U hU hW => ⟨rfl, by rw [hU], by rw [hU]; exact hPc, va_K.moved hW.alike hK, hDc.weaken (fun _ _ _ _ => trivial), NwA.warm hW hN⟩⟩ rfl rfl hl.1 rfl (lv_room (Nat.le_of_ble_eq_true rfl)) d_Mo_transition_17 ⟨Nat.le_of_ble_eq_true rfl, Nat.le_of_ble_eq_true rfl⟩) hS (fun q _ h => hFc q h) hFc (fun r9 u t H3 locs ht9 hvm hw4 hB hz1 hk1 hSn => ?_)
  replace hP : va_P (dC, dI) clA [(b0, .inr (9, [.int 0, .int 0, .ref b1, .ref b2, .int 0, .int 0, .ref b3, .ref b4, .ref b5, .ref b6, .int 0, .ref b7, .ref b8, .ref b9, .ref b10, .ref b11, .ref b12, .ref b13, .int 0, .int 0, .ref b14, .ref b15, .long 0, .int 0, .int 0, .ref b16, .int (-1), .ref b17])), (b1, .inl (cI, 8, .inl (fun _ => 0))), (b2, .inl (cI, 8, .inl (fun _ => 0)))] H3 := pu_keep hP hk1
  replace hS := hSn
  clear hSn hPc hDc hFc hk1 hz1 ht9 hvm hB
  refine W.cs (cells' := 0) (slots' := 0) rfl rfl ?_
  subst hw4
  refine lv_if_eq (tgt := 27) hx hb d_Mo_transition_20 (by decide) (fun _ => ?_) (fun h => (h (by decide)).elim)
  refine lv_aload_n hx hb d_Mo_transition_27 rfl (lv_at hl 0 rfl) ?_
  refine va_get (D := (dC, dI)) (ci := 9) (v := .int 0) (C := "NetUnfolderModel") (T := T_Mo) (N := 28) hx hb ht in_Mo hown hK hP 0 rfl rfl 1 (by decide) (ht _ wd_4_1) (fun _ h9 => h9) rfl d_Mo_transition_28 ?_
  refine lv_bipush (v := 8) hx hb d_Mo_transition_31 (by decide) ?_
  refine lv_icmp_ne (tgt := 40) hx hb d_Mo_transition_33 (by decide) (fun _ => ?_) (fun h => absurd h (by decide))
  refine lv_iconst (v := 0) hx hb d_Mo_transition_40 (by decide) ?_
  refine va_put (D := (dC, dI)) (ci := 9) (v := .int 0) (ty := .int) (C := "NetUnfolderModel") (T := T_Mo) (N := 28) hx hb ht in_Mo ty_Mo ok_Mo nm_Mo hown hK hP hD hS 0 rfl rfl 0 (by decide) (ht _ wd_4_0) (fun _ h9 => h9) rfl (by decide +kernel) rfl rfl (Nat.le_of_ble_eq_true rfl) d_Mo_transition_41 (fun H5 locs hPn hDn hSn => ?_)
  replace hP : va_P (dC, dI) clA [(b0, .inr (9, [.int 0, .int 0, .ref b1, .ref b2, .int 0, .int 0, .ref b3, .ref b4, .ref b5, .ref b6, .int 0, .ref b7, .ref b8, .ref b9, .ref b10, .ref b11, .ref b12, .ref b13, .int 0, .int 0, .ref b14, .ref b15, .long 0, .int 0, .int 0, .ref b16, .int (-1), .ref b17])), (b1, .inl (cI, 8, .inl (fun _ => 0))), (b2, .inl (cI, 8, .inl (fun _ => 0)))] H5 := hPn
  replace hD : va_D A [(b0, .inr (9, [.int 0, .int 0, .ref b1, .ref b2, .int 0, .int 0, .ref b3, .ref b4, .ref b5, .ref b6, .int 0, .ref b7, .ref b8, .ref b9, .ref b10, .ref b11, .ref b12, .ref b13, .int 0, .int 0, .ref b14, .ref b15, .long 0, .int 0, .int 0, .ref b16, .int (-1), .ref b17])), (b1, .inl (cI, 8, .inl (fun _ => 0))), (b2, .inl (cI, 8, .inl (fun _ => 0)))] := hDn
  replace hS := hSn
  clear hPn hDn hSn
  refine lv_aload_n hx hb d_Mo_transition_44 rfl (lv_at hl 0 rfl) ?_
  refine va_get (D := (dC, dI)) (ci := 9) (v := .int 0) (C := "NetUnfolderModel") (T := T_Mo) (N := 28) hx hb ht in_Mo hown hK hP 0 rfl rfl 0 (by decide) (ht _ wd_4_0) (fun _ h9 => h9) rfl d_Mo_transition_45 ?_
  refine lv_if_eq (tgt := 53) hx hb d_Mo_transition_48 (by decide) (fun _ => ?_) (fun h => (h (by decide)).elim)
  refine lv_aload_n hx hb d_Mo_transition_53 rfl (lv_at hl 0 rfl) ?_
  refine va_get (D := (dC, dI)) (ci := 9) (v := .ref b1) (C := "NetUnfolderModel") (T := T_Mo) (N := 28) hx hb ht in_Mo hown hK hP 0 rfl rfl 2 (by decide) (ht _ wd_4_2) (fun _ h9 => h9) rfl d_Mo_transition_54 ?_
  refine lv_aload_n hx hb d_Mo_transition_57 rfl (lv_at hl 0 rfl) ?_
  refine va_get (D := (dC, dI)) (ci := 9) (v := .int 0) (C := "NetUnfolderModel") (T := T_Mo) (N := 28) hx hb ht in_Mo hown hK hP 0 rfl rfl 1 (by decide) (ht _ wd_4_1) (fun _ h9 => h9) rfl d_Mo_transition_58 ?_
  refine lv_iload_n hx hb d_Mo_transition_61 rfl (lv_at hl 1 rfl) ?_
  refine va_iast hx hb hK hP hD hS 1 0 rfl rfl (by unfold vp_in; decide) d_Mo_transition_62 (fun H6 locs hPn hDn hSn => ?_)
  replace hP : va_P (dC, dI) clA [(b0, .inr (9, [.int 0, .int 0, .ref b1, .ref b2, .int 0, .int 0, .ref b3, .ref b4, .ref b5, .ref b6, .int 0, .ref b7, .ref b8, .ref b9, .ref b10, .ref b11, .ref b12, .ref b13, .int 0, .int 0, .ref b14, .ref b15, .long 0, .int 0, .int 0, .ref b16, .int (-1), .ref b17])), (b1, .inl (cI, 8, .inl (upd (fun _ => 0) (0 : Int32).toNatClampNeg k0))), (b2, .inl (cI, 8, .inl (fun _ => 0)))] H6 := hPn
  replace hD : va_D A [(b0, .inr (9, [.int 0, .int 0, .ref b1, .ref b2, .int 0, .int 0, .ref b3, .ref b4, .ref b5, .ref b6, .int 0, .ref b7, .ref b8, .ref b9, .ref b10, .ref b11, .ref b12, .ref b13, .int 0, .int 0, .ref b14, .ref b15, .long 0, .int 0, .int 0, .ref b16, .int (-1), .ref b17])), (b1, .inl (cI, 8, .inl (upd (fun _ => 0) (0 : Int32).toNatClampNeg k0))), (b2, .inl (cI, 8, .inl (fun _ => 0)))] := hDn
  replace hS := hSn
  clear hPn hDn hSn
  refine lv_aload_n hx hb d_Mo_transition_63 rfl (lv_at hl 0 rfl) ?_
  refine va_get (D := (dC, dI)) (ci := 9) (v := .ref b2) (C := "NetUnfolderModel") (T := T_Mo) (N := 28) hx hb ht in_Mo hown hK hP 0 rfl rfl 3 (by decide) (ht _ wd_4_3) (fun _ h9 => h9) rfl d_Mo_transition_64 ?_
  refine lv_aload_n hx hb d_Mo_transition_67 rfl (lv_at hl 0 rfl) ?_
  refine va_get (D := (dC, dI)) (ci := 9) (v := .int 0) (C := "NetUnfolderModel") (T := T_Mo) (N := 28) hx hb ht in_Mo hown hK hP 0 rfl rfl 1 (by decide) (ht _ wd_4_1) (fun _ h9 => h9) rfl d_Mo_transition_68 ?_
  refine lv_iload_n hx hb d_Mo_transition_71 rfl (lv_at hl 2 rfl) ?_
  refine va_iast hx hb hK hP hD hS 2 0 rfl rfl (by unfold vp_in; decide) d_Mo_transition_72 (fun H7 locs hPn hDn hSn => ?_)
  replace hP : va_P (dC, dI) clA [(b0, .inr (9, [.int 0, .int 0, .ref b1, .ref b2, .int 0, .int 0, .ref b3, .ref b4, .ref b5, .ref b6, .int 0, .ref b7, .ref b8, .ref b9, .ref b10, .ref b11, .ref b12, .ref b13, .int 0, .int 0, .ref b14, .ref b15, .long 0, .int 0, .int 0, .ref b16, .int (-1), .ref b17])), (b1, .inl (cI, 8, .inl (upd (fun _ => 0) (0 : Int32).toNatClampNeg k0))), (b2, .inl (cI, 8, .inl (upd (fun _ => 0) (0 : Int32).toNatClampNeg k1)))] H7 := hPn
  replace hD : va_D A [(b0, .inr (9, [.int 0, .int 0, .ref b1, .ref b2, .int 0, .int 0, .ref b3, .ref b4, .ref b5, .ref b6, .int 0, .ref b7, .ref b8, .ref b9, .ref b10, .ref b11, .ref b12, .ref b13, .int 0, .int 0, .ref b14, .ref b15, .long 0, .int 0, .int 0, .ref b16, .int (-1), .ref b17])), (b1, .inl (cI, 8, .inl (upd (fun _ => 0) (0 : Int32).toNatClampNeg k0))), (b2, .inl (cI, 8, .inl (upd (fun _ => 0) (0 : Int32).toNatClampNeg k1)))] := hDn
  replace hS := hSn
  clear hPn hDn hSn
  refine lv_aload_n hx hb d_Mo_transition_73 rfl (lv_at hl 0 rfl) ?_
  refine lv_dup hx hb d_Mo_transition_74 rfl ?_
  refine va_get (D := (dC, dI)) (ci := 9) (v := .int 0) (C := "NetUnfolderModel") (T := T_Mo) (N := 28) hx hb ht in_Mo hown hK hP 0 rfl rfl 1 (by decide) (ht _ wd_4_1) (fun _ h9 => h9) rfl d_Mo_transition_75 ?_
  refine lv_iconst (v := 1) hx hb d_Mo_transition_78 (by decide) ?_
  refine lv_iadd hx hb d_Mo_transition_79 ?_
  refine ci_i (y := 1) (by decide) ?_
  refine va_put (D := (dC, dI)) (ci := 9) (v := .int 1) (ty := .int) (C := "NetUnfolderModel") (T := T_Mo) (N := 28) hx hb ht in_Mo ty_Mo ok_Mo nm_Mo hown hK hP hD hS 0 rfl rfl 1 (by decide) (ht _ wd_4_1) (fun _ h9 => h9) rfl (by decide +kernel) rfl rfl (Nat.le_of_ble_eq_true rfl) d_Mo_transition_80 (fun H8 locs hPn hDn hSn => ?_)
  replace hP : va_P (dC, dI) clA [(b0, .inr (9, [.int 0, .int 1, .ref b1, .ref b2, .int 0, .int 0, .ref b3, .ref b4, .ref b5, .ref b6, .int 0, .ref b7, .ref b8, .ref b9, .ref b10, .ref b11, .ref b12, .ref b13, .int 0, .int 0, .ref b14, .ref b15, .long 0, .int 0, .int 0, .ref b16, .int (-1), .ref b17])), (b1, .inl (cI, 8, .inl (upd (fun _ => 0) (0 : Int32).toNatClampNeg k0))), (b2, .inl (cI, 8, .inl (upd (fun _ => 0) (0 : Int32).toNatClampNeg k1)))] H8 := hPn
  replace hD : va_D A [(b0, .inr (9, [.int 0, .int 1, .ref b1, .ref b2, .int 0, .int 0, .ref b3, .ref b4, .ref b5, .ref b6, .int 0, .ref b7, .ref b8, .ref b9, .ref b10, .ref b11, .ref b12, .ref b13, .int 0, .int 0, .ref b14, .ref b15, .long 0, .int 0, .int 0, .ref b16, .int (-1), .ref b17])), (b1, .inl (cI, 8, .inl (upd (fun _ => 0) (0 : Int32).toNatClampNeg k0))), (b2, .inl (cI, 8, .inl (upd (fun _ => 0) (0 : Int32).toNatClampNeg k1)))] := hDn
  replace hS := hSn
  clear hPn hDn hSn
  refine lv_aload_n hx hb d_Mo_transition_83 rfl (lv_at hl 0 rfl) ?_
  have hPc := hP.sub (ws' := [(b0, .inr (9, [.int 0, .int 1, .ref b1, .ref b2, .int 0, .int 0, .ref b3, .ref b4, .ref b5, .ref b6, .int 0, .ref b7, .ref b8, .ref b9, .ref b10, .ref b11, .ref b12, .ref b13, .int 0, .int 0, .ref b14, .ref b15, .long 0, .int 0, .int 0, .ref b16, .int (-1), .ref b17]))]) [0] rfl
  have hDc := hD.sub (ws' := [(b0, .inr (9, [.int 0, .int 1, .ref b1, .ref b2, .int 0, .int 0, .ref b3, .ref b4, .ref b5, .ref b6, .int 0, .ref b7, .ref b8, .ref b9, .ref b10, .ref b11, .ref b12, .ref b13, .int 0, .int 0, .ref b14, .ref b15, .long 0, .int 0, .int 0, .ref b16, .int (-1), .ref b17]))]) [0] (by decide) rfl
  have hFc := va_free (wc := [(b0, .inr (9, [.int 0, .int 1, .ref b1, .ref b2, .int 0, .int 0, .ref b3, .ref b4, .ref b5, .ref b6, .int 0, .ref b7, .ref b8, .ref b9, .ref b10, .ref b11, .ref b12, .ref b13, .int 0, .int 0, .ref b14, .ref b15, .long 0, .int 0, .int 0, .ref b16, .int (-1), .ref b17]))]) hD hS hA [0] rfl
  refine va_callv (va_runV (C := "NetUnfolderModel") (As := []) (rest := []) ⟨hx, hb, hml, hown, ht⟩ (c_Mo_forget l dC dI cI cL cZ _ b0 0 1 b1 b2 0 0 b3 b4 b5 b6 0 b7 b8 b9 b10 b11 b12 b13 0 0 b14 b15 0 0 0 b16 (-1) b17 ) (cwV 0 ht (good_V wd_4_97 wd_4_99 ws_Mo_forget wd_1_10 wd_4_100) rfl rfl rfl (by decide +kernel) ⟨Nat.le_of_ble_eq_true rfl, Nat.le_of_ble_eq_true rfl⟩) ⟨fun a U g mk q => by obtain ⟨q0, q1, qP, qK, qD, qN⟩ := q; exact ⟨q0, q1, qP, va_K.moved (u := U) (U := U.calling g mk a) (Vm.Alike.refl U.vm) qK, qD, NwA.same (u := U) rfl qN⟩, (va_recv (q0 := 0) (ci := 9) hK hP rfl rfl), fun U hU hW => ⟨rfl, by rw [hU], by rw [hU]; exact hPc, va_K.moved hW.alike hK, hDc.weaken (fun _ _ _ _ => trivial), NwA.warm hW hN⟩⟩ rfl rfl hl.1 rfl (lv_room (Nat.le_of_ble_eq_true rfl)) d_Mo_transition_84 ⟨Nat.le_of_ble_eq_true rfl, Nat.le_of_ble_eq_true rfl⟩) hS (fun q _ h => hFc q h) hFc (fun u t H9 locs ht9 hvm hw10 hB hz1 hk1 hSn => ?_)
  obtain ⟨hP1, hD1⟩ := hB
  rw [ht9] at hP1
  obtain ⟨hPn, hDn⟩ := va_join (wr := [(b1, .inl (cI, 8, .inl (upd (fun _ => 0) (0 : Int32).toNatClampNeg k0))), (b2, .inl (cI, 8, .inl (upd (fun _ => 0) (0 : Int32).toNatClampNeg k1)))]) (w1 := [(b0, .inr (9, [.int 0, .int 1, .ref b1, .ref b2, .int 0, .int 0, .ref b3, .ref b4, .ref b5, .ref b6, .int 0, .ref b7, .ref b8, .ref b9, .ref b10, .ref b11, .ref b12, .ref b13, .int 0, .int 0, .ref b14, .ref b15, .long 0, .int 0, .int 0, .ref b16, .int (-1), .ref b17]))]) hP hD [0] [1, 2] rfl rfl (by decide) (by decide) hk1 hFc hP1 hD1
  replace hP : va_P (dC, dI) clA [(b1, .inl (cI, 8, .inl (upd (fun _ => 0) (0 : Int32).toNatClampNeg k0))), (b2, .inl (cI, 8, .inl (upd (fun _ => 0) (0 : Int32).toNatClampNeg k1))), (b0, .inr (9, [.int 0, .int 1, .ref b1, .ref b2, .int 0, .int 0, .ref b3, .ref b4, .ref b5, .ref b6, .int 0, .ref b7, .ref b8, .ref b9, .ref b10, .ref b11, .ref b12, .ref b13, .int 0, .int 0, .ref b14, .ref b15, .long 0, .int 0, .int 0, .ref b16, .int (-1), .ref b17]))] H9 := hPn
  replace hD : va_D A [(b1, .inl (cI, 8, .inl (upd (fun _ => 0) (0 : Int32).toNatClampNeg k0))), (b2, .inl (cI, 8, .inl (upd (fun _ => 0) (0 : Int32).toNatClampNeg k1))), (b0, .inr (9, [.int 0, .int 1, .ref b1, .ref b2, .int 0, .int 0, .ref b3, .ref b4, .ref b5, .ref b6, .int 0, .ref b7, .ref b8, .ref b9, .ref b10, .ref b11, .ref b12, .ref b13, .int 0, .int 0, .ref b14, .ref b15, .long 0, .int 0, .int 0, .ref b16, .int (-1), .ref b17]))] := hDn
  replace hS := hSn
  clear hPn hDn hSn
  clear hPc hDc hFc hP1 hD1 hk1 hz1 ht9 hvm
  refine W.cs (cells' := 0) (slots' := 0) rfl rfl ?_
  refine lv_aload_n hx hb d_Mo_transition_87 rfl (lv_at hl 0 rfl) ?_
  refine va_get (D := (dC, dI)) (ci := 9) (v := .int 1) (C := "NetUnfolderModel") (T := T_Mo) (N := 28) hx hb ht in_Mo hown hK hP 2 rfl rfl 1 (by decide) (ht _ wd_4_1) (fun _ h9 => h9) rfl d_Mo_transition_88 ?_
  refine lv_iconst (v := 1) hx hb d_Mo_transition_91 (by decide) ?_
  refine lv_isub hx hb d_Mo_transition_92 ?_
  refine ci_i (y := 0) (by decide) ?_
  have hP9 := hP.sub (ws' := [(b1, .inl (cI, 8, .inl (upd (fun _ => 0) (0 : Int32).toNatClampNeg k0))), (b2, .inl (cI, 8, .inl (upd (fun _ => 0) (0 : Int32).toNatClampNeg k1))), (b0, .inr (9, [.int 0, .int 1, .ref b1, .ref b2, .int 0, .int 0, .ref b3, .ref b4, .ref b5, .ref b6, .int 0, .ref b7, .ref b8, .ref b9, .ref b10, .ref b11, .ref b12, .ref b13, .int 0, .int 0, .ref b14, .ref b15, .long 0, .int 0, .int 0, .ref b16, .int (-1), .ref b17]))]) [0, 1, 2] rfl
  have hD9 := hD.sub (ws' := [(b1, .inl (cI, 8, .inl (upd (fun _ => 0) (0 : Int32).toNatClampNeg k0))), (b2, .inl (cI, 8, .inl (upd (fun _ => 0) (0 : Int32).toNatClampNeg k1))), (b0, .inr (9, [.int 0, .int 1, .ref b1, .ref b2, .int 0, .int 0, .ref b3, .ref b4, .ref b5, .ref b6, .int 0, .ref b7, .ref b8, .ref b9, .ref b10, .ref b11, .ref b12, .ref b13, .int 0, .int 0, .ref b14, .ref b15, .long 0, .int 0, .int 0, .ref b16, .int (-1), .ref b17]))]) [0, 1, 2] (by decide) rfl
  exact W.iret (v := 0) hx hb hr (fun t ht9 hW => ⟨⟨0, (), rfl, rfl, by rw [ht9]; exact hP9, hD9⟩, hS.F ht9⟩) hS.2.2 d_Mo_transition_93

set_option maxHeartbeats 4000000 in
set_option maxRecDepth 100000 in
theorem c_Mo_transition_0 (l : Launch) (dC : Nat → ClassId) (dI : Nat → Nat → Nat) (cI cL cZ : ClassId) (sz : Nat) (b0 : Nat) (b1 : Nat) (b2 : Nat) (b3 : Nat) (b4 : Nat) (b5 : Nat) (b6 : Nat) (b7 : Nat) (b8 : Nat) (b9 : Nat) (b10 : Nat) (b11 : Nat) (b12 : Nat) (b13 : Nat) (b14 : Nat) (b15 : Nat) (b16 : Nat) (b17 : Nat) (k0 : Int32) (k1 : Int32) (h1 : k0 < 1) : Met l y_Mo_transition (Cond.code y_Mo_transition prog_11_method_7_code 3 (some .int) :: wsA) { frames := 1, cells := 0, slots := 0, locals := 22 } (va_Pc [.ref b0, .int k0, .int k1] (fun U => U.heap.size = sz ∧ va_P (dC, dI) clA [(b0, .inr (9, [.int 0, .int 0, .ref b1, .ref b2, .int 0, .int 0, .ref b3, .ref b4, .ref b5, .ref b6, .int 0, .ref b7, .ref b8, .ref b9, .ref b10, .ref b11, .ref b12, .ref b13, .int 0, .int 0, .ref b14, .ref b15, .long 0, .int 0, .int 0, .ref b16, .int (-1), .ref b17]))] U.heap ∧ va_K (dC, dI) clA [(cI, .int), (cL, .long), (cZ, .boolean)] U ∧ va_D (fun _ => True) [(b0, .inr (9, [.int 0, .int 0, .ref b1, .ref b2, .int 0, .int 0, .ref b3, .ref b4, .ref b5, .ref b6, .int 0, .ref b7, .ref b8, .ref b9, .ref b10, .ref b11, .ref b12, .ref b13, .int 0, .int 0, .ref b14, .ref b15, .long 0, .int 0, .int 0, .ref b16, .int (-1), .ref b17]))] ∧ NwA U)) (va_Qi (fun r (_ : Unit) => r = 0) (fun _ t => va_P (dC, dI) clA [(b0, .inr (9, [.int 1, .int 0, .ref b1, .ref b2, .int 0, .int 0, .ref b3, .ref b4, .ref b5, .ref b6, .int 0, .ref b7, .ref b8, .ref b9, .ref b10, .ref b11, .ref b12, .ref b13, .int 0, .int 0, .ref b14, .ref b15, .long 0, .int 0, .int 0, .ref b16, .int (-1), .ref b17]))] t.heap ∧ va_D (va_A [(b0, .inr (9, [.int 0, .int 0, .ref b1, .ref b2, .int 0, .int 0, .ref b3, .ref b4, .ref b5, .ref b6, .int 0, .ref b7, .ref b8, .ref b9, .ref b10, .ref b11, .ref b12, .ref b13, .int 0, .int 0, .ref b14, .ref b15, .long 0, .int 0, .int 0, .ref b16, .int (-1), .ref b17]))] sz) [(b0, .inr (9, [.int 1, .int 0, .ref b1, .ref b2, .int 0, .int 0, .ref b3, .ref b4, .ref b5, .ref b6, .int 0, .ref b7, .ref b8, .ref b9, .ref b10, .ref b11, .ref b12, .ref b13, .int 0, .int 0, .ref b14, .ref b15, .long 0, .int 0, .int 0, .ref b16, .int (-1), .ref b17]))]) (va_A [(b0, .inr (9, [.int 0, .int 0, .ref b1, .ref b2, .int 0, .int 0, .ref b3, .ref b4, .ref b5, .ref b6, .int 0, .ref b7, .ref b8, .ref b9, .ref b10, .ref b11, .ref b12, .ref b13, .int 0, .int 0, .ref b14, .ref b15, .long 0, .int 0, .int 0, .ref b16, .int (-1), .ref b17]))] sz)) 0 0 (va_A [(b0, .inr (9, [.int 0, .int 0, .ref b1, .ref b2, .int 0, .int 0, .ref b3, .ref b4, .ref b5, .ref b6, .int 0, .ref b7, .ref b8, .ref b9, .ref b10, .ref b11, .ref b12, .ref b13, .int 0, .int 0, .ref b14, .ref b15, .long 0, .int 0, .int 0, .ref b16, .int (-1), .ref b17]))] sz) := by
  refine Met.ofW (cc := prog_11_method_7_code) (maxL := 3) (ret := (some .int)) (by decide) rfl ?_
  intro p e s m args below meth c s₁ B hml hv
  obtain ⟨rfl, hsz, hP, hK, hD0, hN⟩ := hv
  have hx := B.exec
  have hb := B.bytes
  have hr := B.returns
  have ht : ∀ w ∈ wsA, w.before _ s = true := fun w h => atoms_spec (ws := (Cond.code y_Mo_transition prog_11_method_7_code 3 (some .int) :: wsA)) B.pre w (List.mem_cons_of_mem _ h)
  have hown : s.vm.findClass "NetUnfolderModel" = some m.cls := findClass_of_methodNamed B.named
  have hlocks := B.notSynchronized
  subst hsz
  have hD := hD0.self (sz := s.heap.size)
  generalize hAe : va_A [(b0, .inr (9, [.int 0, .int 0, .ref b1, .ref b2, .int 0, .int 0, .ref b3, .ref b4, .ref b5, .ref b6, .int 0, .ref b7, .ref b8, .ref b9, .ref b10, .ref b11, .ref b12, .ref b13, .int 0, .int 0, .ref b14, .ref b15, .long 0, .int 0, .int 0, .ref b16, .int (-1), .ref b17]))] s.heap.size = A at hD ⊢
  have hA : ∀ q : Nat, s.heap.size ≤ q → A q := fun q h => by rw [← hAe]; exact Or.inr h
  have hS : va_S A s.heap s.heap [] := va_S.rf
  have hl := lv_entry ([.ref b0, .int k0, .int k1]) (n := 3) (Nat.le_of_ble_eq_true rfl)
  rw [lg_entry_eq]
  generalize (lg_sl ([.ref b0, .int k0, .int k1]) ++ List.replicate (3 - (lg_sl ([.ref b0, .int k0, .int k1])).length) Slot.unset).toArray = ls at hl ⊢
  replace hl : lv_has ls 3 [(0, .ref b0), (1, .int k0), (2, .int k1)] := hl
  refine lv_aload_n hx hb d_Mo_transition_0 rfl (lv_at hl 0 rfl) ?_
  refine lv_iload_n hx hb d_Mo_transition_1 rfl (lv_at hl 1 rfl) ?_
  refine lv_iconst (v := 1) hx hb d_Mo_transition_2 (by decide) ?_
  refine lv_sipush (v := 255) hx hb d_Mo_transition_3 (by decide) ?_
  have hPc : va_P (dC, dI) clA [] _ := pu_P (H := s.heap)
  have hDc : va_D (fun _ => True) [] := pu_D
  have hFc := pu_free hS hA
  refine va_calli (va_runS (As := [.int k0, .int 1, .int 255]) (rest := [.ref b0]) ⟨hx, hb, hml, hown, ht⟩ (c_Mo_outside_1_255_lo l dC dI cI cL cZ _ k0 h1) (va_cwS 3 ht (good_S wd_4_94 wd_4_95 wd_1_10 wd_4_96) rfl rfl rfl (by decide +kernel) ⟨Nat.le_of_ble_eq_true rfl, Nat.le_of_ble_eq_true rfl⟩) ⟨fun a U g mk q => by obtain ⟨q0, q1, qP, qK, qD, qN⟩ := q; exact ⟨q0, q1, qP, va_K.moved (u := U) (U := U.calling g mk a) (Vm.Alike.refl U.vm) qK, qD, NwA.same (u := U) rfl qN⟩, fun U hU hW => ⟨rfl, by rw [hU], by rw [hU]; exact hPc, va_K.moved hW.alike hK, hDc.weaken (fun _ _ _ _ => trivial), NwA.warm hW hN⟩⟩ rfl rfl hl.1 rfl (lv_room (Nat.le_of_ble_eq_true rfl)) d_Mo_transition_6 ⟨Nat.le_of_ble_eq_true rfl, Nat.le_of_ble_eq_true rfl⟩) hS (fun q _ h => hFc q h) hFc (fun r9 u t H1 locs ht9 hvm hw2 hB hz1 hk1 hSn => ?_)
  replace hP : va_P (dC, dI) clA [(b0, .inr (9, [.int 0, .int 0, .ref b1, .ref b2, .int 0, .int 0, .ref b3, .ref b4, .ref b5, .ref b6, .int 0, .ref b7, .ref b8, .ref b9, .ref b10, .ref b11, .ref b12, .ref b13, .int 0, .int 0, .ref b14, .ref b15, .long 0, .int 0, .int 0, .ref b16, .int (-1), .ref b17]))] H1 := pu_keep hP hk1
  replace hS := hSn
  clear hSn hPc hDc hFc hk1 hz1 ht9 hvm hB
  refine W.cs (cells' := 0) (slots' := 0) rfl rfl ?_
  subst hw2
  refine lv_if_ne (tgt := 23) hx hb d_Mo_transition_9 (by decide) (fun _ => ?_) (fun h => absurd h (by decide))
  refine lv_iconst (v := 1) hx hb d_Mo_transition_23 (by decide) ?_
  refine lv_goto (tgt := 41) hx hb d_Mo_transition_24 (by decide) ?_
  refine va_put (D := (dC, dI)) (ci := 9) (v := .int 1) (ty := .int) (C := "NetUnfolderModel") (T := T_Mo) (N := 28) hx hb ht in_Mo ty_Mo ok_Mo nm_Mo hown hK hP hD hS 0 rfl rfl 0 (by decide) (ht _ wd_4_0) (fun _ h9 => h9) rfl (by decide +kernel) rfl rfl (Nat.le_of_ble_eq_true rfl) d_Mo_transition_41 (fun H3 locs hPn hDn hSn => ?_)
  replace hP : va_P (dC, dI) clA [(b0, .inr (9, [.int 1, .int 0, .ref b1, .ref b2, .int 0, .int 0, .ref b3, .ref b4, .ref b5, .ref b6, .int 0, .ref b7, .ref b8, .ref b9, .ref b10, .ref b11, .ref b12, .ref b13, .int 0, .int 0, .ref b14, .ref b15, .long 0, .int 0, .int 0, .ref b16, .int (-1), .ref b17]))] H3 := hPn
  replace hD : va_D A [(b0, .inr (9, [.int 1, .int 0, .ref b1, .ref b2, .int 0, .int 0, .ref b3, .ref b4, .ref b5, .ref b6, .int 0, .ref b7, .ref b8, .ref b9, .ref b10, .ref b11, .ref b12, .ref b13, .int 0, .int 0, .ref b14, .ref b15, .long 0, .int 0, .int 0, .ref b16, .int (-1), .ref b17]))] := hDn
  replace hS := hSn
  clear hPn hDn hSn
  refine lv_aload_n hx hb d_Mo_transition_44 rfl (lv_at hl 0 rfl) ?_
  refine va_get (D := (dC, dI)) (ci := 9) (v := .int 1) (C := "NetUnfolderModel") (T := T_Mo) (N := 28) hx hb ht in_Mo hown hK hP 0 rfl rfl 0 (by decide) (ht _ wd_4_0) (fun _ h9 => h9) rfl d_Mo_transition_45 ?_
  refine lv_if_eq (tgt := 53) hx hb d_Mo_transition_48 (by decide) (fun h => absurd h (by decide)) (fun _ => ?_)
  refine lv_iconst (v := 0) hx hb d_Mo_transition_51 (by decide) ?_
  have hP9 := hP.sub (ws' := [(b0, .inr (9, [.int 1, .int 0, .ref b1, .ref b2, .int 0, .int 0, .ref b3, .ref b4, .ref b5, .ref b6, .int 0, .ref b7, .ref b8, .ref b9, .ref b10, .ref b11, .ref b12, .ref b13, .int 0, .int 0, .ref b14, .ref b15, .long 0, .int 0, .int 0, .ref b16, .int (-1), .ref b17]))]) [0] rfl
  have hD9 := hD.sub (ws' := [(b0, .inr (9, [.int 1, .int 0, .ref b1, .ref b2, .int 0, .int 0, .ref b3, .ref b4, .ref b5, .ref b6, .int 0, .ref b7, .ref b8, .ref b9, .ref b10, .ref b11, .ref b12, .ref b13, .int 0, .int 0, .ref b14, .ref b15, .long 0, .int 0, .int 0, .ref b16, .int (-1), .ref b17]))]) [0] (by decide) rfl
  exact W.iret (v := 0) hx hb hr (fun t ht9 hW => ⟨⟨0, (), rfl, rfl, by rw [ht9]; exact hP9, hD9⟩, hS.F ht9⟩) hS.2.2 d_Mo_transition_52

set_option maxHeartbeats 4000000 in
set_option maxRecDepth 100000 in
theorem c_Mo_transition_1 (l : Launch) (dC : Nat → ClassId) (dI : Nat → Nat → Nat) (cI cL cZ : ClassId) (sz : Nat) (b0 : Nat) (b1 : Nat) (b2 : Nat) (b3 : Nat) (b4 : Nat) (b5 : Nat) (b6 : Nat) (b7 : Nat) (b8 : Nat) (b9 : Nat) (b10 : Nat) (b11 : Nat) (b12 : Nat) (b13 : Nat) (b14 : Nat) (b15 : Nat) (b16 : Nat) (b17 : Nat) (k0 : Int32) (k1 : Int32) (h2 : 255 < k0) : Met l y_Mo_transition (Cond.code y_Mo_transition prog_11_method_7_code 3 (some .int) :: wsA) { frames := 1, cells := 0, slots := 0, locals := 22 } (va_Pc [.ref b0, .int k0, .int k1] (fun U => U.heap.size = sz ∧ va_P (dC, dI) clA [(b0, .inr (9, [.int 0, .int 0, .ref b1, .ref b2, .int 0, .int 0, .ref b3, .ref b4, .ref b5, .ref b6, .int 0, .ref b7, .ref b8, .ref b9, .ref b10, .ref b11, .ref b12, .ref b13, .int 0, .int 0, .ref b14, .ref b15, .long 0, .int 0, .int 0, .ref b16, .int (-1), .ref b17]))] U.heap ∧ va_K (dC, dI) clA [(cI, .int), (cL, .long), (cZ, .boolean)] U ∧ va_D (fun _ => True) [(b0, .inr (9, [.int 0, .int 0, .ref b1, .ref b2, .int 0, .int 0, .ref b3, .ref b4, .ref b5, .ref b6, .int 0, .ref b7, .ref b8, .ref b9, .ref b10, .ref b11, .ref b12, .ref b13, .int 0, .int 0, .ref b14, .ref b15, .long 0, .int 0, .int 0, .ref b16, .int (-1), .ref b17]))] ∧ NwA U)) (va_Qi (fun r (_ : Unit) => r = 0) (fun _ t => va_P (dC, dI) clA [(b0, .inr (9, [.int 1, .int 0, .ref b1, .ref b2, .int 0, .int 0, .ref b3, .ref b4, .ref b5, .ref b6, .int 0, .ref b7, .ref b8, .ref b9, .ref b10, .ref b11, .ref b12, .ref b13, .int 0, .int 0, .ref b14, .ref b15, .long 0, .int 0, .int 0, .ref b16, .int (-1), .ref b17]))] t.heap ∧ va_D (va_A [(b0, .inr (9, [.int 0, .int 0, .ref b1, .ref b2, .int 0, .int 0, .ref b3, .ref b4, .ref b5, .ref b6, .int 0, .ref b7, .ref b8, .ref b9, .ref b10, .ref b11, .ref b12, .ref b13, .int 0, .int 0, .ref b14, .ref b15, .long 0, .int 0, .int 0, .ref b16, .int (-1), .ref b17]))] sz) [(b0, .inr (9, [.int 1, .int 0, .ref b1, .ref b2, .int 0, .int 0, .ref b3, .ref b4, .ref b5, .ref b6, .int 0, .ref b7, .ref b8, .ref b9, .ref b10, .ref b11, .ref b12, .ref b13, .int 0, .int 0, .ref b14, .ref b15, .long 0, .int 0, .int 0, .ref b16, .int (-1), .ref b17]))]) (va_A [(b0, .inr (9, [.int 0, .int 0, .ref b1, .ref b2, .int 0, .int 0, .ref b3, .ref b4, .ref b5, .ref b6, .int 0, .ref b7, .ref b8, .ref b9, .ref b10, .ref b11, .ref b12, .ref b13, .int 0, .int 0, .ref b14, .ref b15, .long 0, .int 0, .int 0, .ref b16, .int (-1), .ref b17]))] sz)) 0 0 (va_A [(b0, .inr (9, [.int 0, .int 0, .ref b1, .ref b2, .int 0, .int 0, .ref b3, .ref b4, .ref b5, .ref b6, .int 0, .ref b7, .ref b8, .ref b9, .ref b10, .ref b11, .ref b12, .ref b13, .int 0, .int 0, .ref b14, .ref b15, .long 0, .int 0, .int 0, .ref b16, .int (-1), .ref b17]))] sz) := by
  refine Met.ofW (cc := prog_11_method_7_code) (maxL := 3) (ret := (some .int)) (by decide) rfl ?_
  intro p e s m args below meth c s₁ B hml hv
  obtain ⟨rfl, hsz, hP, hK, hD0, hN⟩ := hv
  have hx := B.exec
  have hb := B.bytes
  have hr := B.returns
  have ht : ∀ w ∈ wsA, w.before _ s = true := fun w h => atoms_spec (ws := (Cond.code y_Mo_transition prog_11_method_7_code 3 (some .int) :: wsA)) B.pre w (List.mem_cons_of_mem _ h)
  have hown : s.vm.findClass "NetUnfolderModel" = some m.cls := findClass_of_methodNamed B.named
  have hlocks := B.notSynchronized
  subst hsz
  have hD := hD0.self (sz := s.heap.size)
  generalize hAe : va_A [(b0, .inr (9, [.int 0, .int 0, .ref b1, .ref b2, .int 0, .int 0, .ref b3, .ref b4, .ref b5, .ref b6, .int 0, .ref b7, .ref b8, .ref b9, .ref b10, .ref b11, .ref b12, .ref b13, .int 0, .int 0, .ref b14, .ref b15, .long 0, .int 0, .int 0, .ref b16, .int (-1), .ref b17]))] s.heap.size = A at hD ⊢
  have hA : ∀ q : Nat, s.heap.size ≤ q → A q := fun q h => by rw [← hAe]; exact Or.inr h
  have hS : va_S A s.heap s.heap [] := va_S.rf
  have hl := lv_entry ([.ref b0, .int k0, .int k1]) (n := 3) (Nat.le_of_ble_eq_true rfl)
  rw [lg_entry_eq]
  generalize (lg_sl ([.ref b0, .int k0, .int k1]) ++ List.replicate (3 - (lg_sl ([.ref b0, .int k0, .int k1])).length) Slot.unset).toArray = ls at hl ⊢
  replace hl : lv_has ls 3 [(0, .ref b0), (1, .int k0), (2, .int k1)] := hl
  refine lv_aload_n hx hb d_Mo_transition_0 rfl (lv_at hl 0 rfl) ?_
  refine lv_iload_n hx hb d_Mo_transition_1 rfl (lv_at hl 1 rfl) ?_
  refine lv_iconst (v := 1) hx hb d_Mo_transition_2 (by decide) ?_
  refine lv_sipush (v := 255) hx hb d_Mo_transition_3 (by decide) ?_
  have hPc : va_P (dC, dI) clA [] _ := pu_P (H := s.heap)
  have hDc : va_D (fun _ => True) [] := pu_D
  have hFc := pu_free hS hA
  refine va_calli (va_runS (As := [.int k0, .int 1, .int 255]) (rest := [.ref b0]) ⟨hx, hb, hml, hown, ht⟩ (c_Mo_outside_1_255_hi l dC dI cI cL cZ _ k0 (ga_nlt (k := 1) (by decide) (by have eh2 := fb_lt (k := 255) (by decide) h2; omega)) h2) (va_cwS 3 ht (good_S wd_4_94 wd_4_95 wd_1_10 wd_4_96) rfl rfl rfl (by decide +kernel) ⟨Nat.le_of_ble_eq_true rfl, Nat.le_of_ble_eq_true rfl⟩) ⟨fun a U g mk q => by obtain ⟨q0, q1, qP, qK, qD, qN⟩ := q; exact ⟨q0, q1, qP, va_K.moved (u := U) (U := U.calling g mk a) (Vm.Alike.refl U.vm) qK, qD, NwA.same (u := U) rfl qN⟩, fun U hU hW => ⟨rfl, by rw [hU], by rw [hU]; exact hPc, va_K.moved hW.alike hK, hDc.weaken (fun _ _ _ _ => trivial), NwA.warm hW hN⟩⟩ rfl rfl hl.1 rfl (lv_room (Nat.le_of_ble_eq_true rfl)) d_Mo_transition_6 ⟨Nat.le_of_ble_eq_true rfl, Nat.le_of_ble_eq_true rfl⟩) hS (fun q _ h => hFc q h) hFc (fun r9 u t H1 locs ht9 hvm hw2 hB hz1 hk1 hSn => ?_)
  replace hP : va_P (dC, dI) clA [(b0, .inr (9, [.int 0, .int 0, .ref b1, .ref b2, .int 0, .int 0, .ref b3, .ref b4, .ref b5, .ref b6, .int 0, .ref b7, .ref b8, .ref b9, .ref b10, .ref b11, .ref b12, .ref b13, .int 0, .int 0, .ref b14, .ref b15, .long 0, .int 0, .int 0, .ref b16, .int (-1), .ref b17]))] H1 := pu_keep hP hk1
  replace hS := hSn
  clear hSn hPc hDc hFc hk1 hz1 ht9 hvm hB
  refine W.cs (cells' := 0) (slots' := 0) rfl rfl ?_
  subst hw2
  refine lv_if_ne (tgt := 23) hx hb d_Mo_transition_9 (by decide) (fun _ => ?_) (fun h => absurd h (by decide))
  refine lv_iconst (v := 1) hx hb d_Mo_transition_23 (by decide) ?_
  refine lv_goto (tgt := 41) hx hb d_Mo_transition_24 (by decide) ?_
  refine va_put (D := (dC, dI)) (ci := 9) (v := .int 1) (ty := .int) (C := "NetUnfolderModel") (T := T_Mo) (N := 28) hx hb ht in_Mo ty_Mo ok_Mo nm_Mo hown hK hP hD hS 0 rfl rfl 0 (by decide) (ht _ wd_4_0) (fun _ h9 => h9) rfl (by decide +kernel) rfl rfl (Nat.le_of_ble_eq_true rfl) d_Mo_transition_41 (fun H3 locs hPn hDn hSn => ?_)
  replace hP : va_P (dC, dI) clA [(b0, .inr (9, [.int 1, .int 0, .ref b1, .ref b2, .int 0, .int 0, .ref b3, .ref b4, .ref b5, .ref b6, .int 0, .ref b7, .ref b8, .ref b9, .ref b10, .ref b11, .ref b12, .ref b13, .int 0, .int 0, .ref b14, .ref b15, .long 0, .int 0, .int 0, .ref b16, .int (-1), .ref b17]))] H3 := hPn
  replace hD : va_D A [(b0, .inr (9, [.int 1, .int 0, .ref b1, .ref b2, .int 0, .int 0, .ref b3, .ref b4, .ref b5, .ref b6, .int 0, .ref b7, .ref b8, .ref b9, .ref b10, .ref b11, .ref b12, .ref b13, .int 0, .int 0, .ref b14, .ref b15, .long 0, .int 0, .int 0, .ref b16, .int (-1), .ref b17]))] := hDn
  replace hS := hSn
  clear hPn hDn hSn
  refine lv_aload_n hx hb d_Mo_transition_44 rfl (lv_at hl 0 rfl) ?_
  refine va_get (D := (dC, dI)) (ci := 9) (v := .int 1) (C := "NetUnfolderModel") (T := T_Mo) (N := 28) hx hb ht in_Mo hown hK hP 0 rfl rfl 0 (by decide) (ht _ wd_4_0) (fun _ h9 => h9) rfl d_Mo_transition_45 ?_
  refine lv_if_eq (tgt := 53) hx hb d_Mo_transition_48 (by decide) (fun h => absurd h (by decide)) (fun _ => ?_)
  refine lv_iconst (v := 0) hx hb d_Mo_transition_51 (by decide) ?_
  have hP9 := hP.sub (ws' := [(b0, .inr (9, [.int 1, .int 0, .ref b1, .ref b2, .int 0, .int 0, .ref b3, .ref b4, .ref b5, .ref b6, .int 0, .ref b7, .ref b8, .ref b9, .ref b10, .ref b11, .ref b12, .ref b13, .int 0, .int 0, .ref b14, .ref b15, .long 0, .int 0, .int 0, .ref b16, .int (-1), .ref b17]))]) [0] rfl
  have hD9 := hD.sub (ws' := [(b0, .inr (9, [.int 1, .int 0, .ref b1, .ref b2, .int 0, .int 0, .ref b3, .ref b4, .ref b5, .ref b6, .int 0, .ref b7, .ref b8, .ref b9, .ref b10, .ref b11, .ref b12, .ref b13, .int 0, .int 0, .ref b14, .ref b15, .long 0, .int 0, .int 0, .ref b16, .int (-1), .ref b17]))]) [0] (by decide) rfl
  exact W.iret (v := 0) hx hb hr (fun t ht9 hW => ⟨⟨0, (), rfl, rfl, by rw [ht9]; exact hP9, hD9⟩, hS.F ht9⟩) hS.2.2 d_Mo_transition_52

set_option maxHeartbeats 4000000 in
set_option maxRecDepth 100000 in
theorem c_Mo_transition_2 (l : Launch) (dC : Nat → ClassId) (dI : Nat → Nat → Nat) (cI cL cZ : ClassId) (sz : Nat) (b0 : Nat) (b1 : Nat) (b2 : Nat) (b3 : Nat) (b4 : Nat) (b5 : Nat) (b6 : Nat) (b7 : Nat) (b8 : Nat) (b9 : Nat) (b10 : Nat) (b11 : Nat) (b12 : Nat) (b13 : Nat) (b14 : Nat) (b15 : Nat) (b16 : Nat) (b17 : Nat) (k0 : Int32) (k1 : Int32) (h1 : ¬ k0 < 1) (h2 : ¬ 255 < k0) (h3 : k1 < 0) : Met l y_Mo_transition (Cond.code y_Mo_transition prog_11_method_7_code 3 (some .int) :: wsA) { frames := 1, cells := 0, slots := 0, locals := 22 } (va_Pc [.ref b0, .int k0, .int k1] (fun U => U.heap.size = sz ∧ va_P (dC, dI) clA [(b0, .inr (9, [.int 0, .int 0, .ref b1, .ref b2, .int 0, .int 0, .ref b3, .ref b4, .ref b5, .ref b6, .int 0, .ref b7, .ref b8, .ref b9, .ref b10, .ref b11, .ref b12, .ref b13, .int 0, .int 0, .ref b14, .ref b15, .long 0, .int 0, .int 0, .ref b16, .int (-1), .ref b17]))] U.heap ∧ va_K (dC, dI) clA [(cI, .int), (cL, .long), (cZ, .boolean)] U ∧ va_D (fun _ => True) [(b0, .inr (9, [.int 0, .int 0, .ref b1, .ref b2, .int 0, .int 0, .ref b3, .ref b4, .ref b5, .ref b6, .int 0, .ref b7, .ref b8, .ref b9, .ref b10, .ref b11, .ref b12, .ref b13, .int 0, .int 0, .ref b14, .ref b15, .long 0, .int 0, .int 0, .ref b16, .int (-1), .ref b17]))] ∧ NwA U)) (va_Qi (fun r (_ : Unit) => r = 0) (fun _ t => va_P (dC, dI) clA [(b0, .inr (9, [.int 1, .int 0, .ref b1, .ref b2, .int 0, .int 0, .ref b3, .ref b4, .ref b5, .ref b6, .int 0, .ref b7, .ref b8, .ref b9, .ref b10, .ref b11, .ref b12, .ref b13, .int 0, .int 0, .ref b14, .ref b15, .long 0, .int 0, .int 0, .ref b16, .int (-1), .ref b17]))] t.heap ∧ va_D (va_A [(b0, .inr (9, [.int 0, .int 0, .ref b1, .ref b2, .int 0, .int 0, .ref b3, .ref b4, .ref b5, .ref b6, .int 0, .ref b7, .ref b8, .ref b9, .ref b10, .ref b11, .ref b12, .ref b13, .int 0, .int 0, .ref b14, .ref b15, .long 0, .int 0, .int 0, .ref b16, .int (-1), .ref b17]))] sz) [(b0, .inr (9, [.int 1, .int 0, .ref b1, .ref b2, .int 0, .int 0, .ref b3, .ref b4, .ref b5, .ref b6, .int 0, .ref b7, .ref b8, .ref b9, .ref b10, .ref b11, .ref b12, .ref b13, .int 0, .int 0, .ref b14, .ref b15, .long 0, .int 0, .int 0, .ref b16, .int (-1), .ref b17]))]) (va_A [(b0, .inr (9, [.int 0, .int 0, .ref b1, .ref b2, .int 0, .int 0, .ref b3, .ref b4, .ref b5, .ref b6, .int 0, .ref b7, .ref b8, .ref b9, .ref b10, .ref b11, .ref b12, .ref b13, .int 0, .int 0, .ref b14, .ref b15, .long 0, .int 0, .int 0, .ref b16, .int (-1), .ref b17]))] sz)) 0 0 (va_A [(b0, .inr (9, [.int 0, .int 0, .ref b1, .ref b2, .int 0, .int 0, .ref b3, .ref b4, .ref b5, .ref b6, .int 0, .ref b7, .ref b8, .ref b9, .ref b10, .ref b11, .ref b12, .ref b13, .int 0, .int 0, .ref b14, .ref b15, .long 0, .int 0, .int 0, .ref b16, .int (-1), .ref b17]))] sz) := by
  refine Met.ofW (cc := prog_11_method_7_code) (maxL := 3) (ret := (some .int)) (by decide) rfl ?_
  intro p e s m args below meth c s₁ B hml hv
  obtain ⟨rfl, hsz, hP, hK, hD0, hN⟩ := hv
  have hx := B.exec
  have hb := B.bytes
  have hr := B.returns
  have ht : ∀ w ∈ wsA, w.before _ s = true := fun w h => atoms_spec (ws := (Cond.code y_Mo_transition prog_11_method_7_code 3 (some .int) :: wsA)) B.pre w (List.mem_cons_of_mem _ h)
  have hown : s.vm.findClass "NetUnfolderModel" = some m.cls := findClass_of_methodNamed B.named
  have hlocks := B.notSynchronized
  subst hsz
  have hD := hD0.self (sz := s.heap.size)
  generalize hAe : va_A [(b0, .inr (9, [.int 0, .int 0, .ref b1, .ref b2, .int 0, .int 0, .ref b3, .ref b4, .ref b5, .ref b6, .int 0, .ref b7, .ref b8, .ref b9, .ref b10, .ref b11, .ref b12, .ref b13, .int 0, .int 0, .ref b14, .ref b15, .long 0, .int 0, .int 0, .ref b16, .int (-1), .ref b17]))] s.heap.size = A at hD ⊢
  have hA : ∀ q : Nat, s.heap.size ≤ q → A q := fun q h => by rw [← hAe]; exact Or.inr h
  have hS : va_S A s.heap s.heap [] := va_S.rf
  have hl := lv_entry ([.ref b0, .int k0, .int k1]) (n := 3) (Nat.le_of_ble_eq_true rfl)
  rw [lg_entry_eq]
  generalize (lg_sl ([.ref b0, .int k0, .int k1]) ++ List.replicate (3 - (lg_sl ([.ref b0, .int k0, .int k1])).length) Slot.unset).toArray = ls at hl ⊢
  replace hl : lv_has ls 3 [(0, .ref b0), (1, .int k0), (2, .int k1)] := hl
  refine lv_aload_n hx hb d_Mo_transition_0 rfl (lv_at hl 0 rfl) ?_
  refine lv_iload_n hx hb d_Mo_transition_1 rfl (lv_at hl 1 rfl) ?_
  refine lv_iconst (v := 1) hx hb d_Mo_transition_2 (by decide) ?_
  refine lv_sipush (v := 255) hx hb d_Mo_transition_3 (by decide) ?_
  have hPc : va_P (dC, dI) clA [] _ := pu_P (H := s.heap)
  have hDc : va_D (fun _ => True) [] := pu_D
  have hFc := pu_free hS hA
  refine va_calli (va_runS (As := [.int k0, .int 1, .int 255]) (rest := [.ref b0]) ⟨hx, hb, hml, hown, ht⟩ (c_Mo_outside_1_255_ok l dC dI cI cL cZ _ k0 h1 h2) (va_cwS 3 ht (good_S wd_4_94 wd_4_95 wd_1_10 wd_4_96) rfl rfl rfl (by decide +kernel) ⟨Nat.le_of_ble_eq_true rfl, Nat.le_of_ble_eq_true rfl⟩) ⟨fun a U g mk q => by obtain ⟨q0, q1, qP, qK, qD, qN⟩ := q; exact ⟨q0, q1, qP, va_K.moved (u := U) (U := U.calling g mk a) (Vm.Alike.refl U.vm) qK, qD, NwA.same (u := U) rfl qN⟩, fun U hU hW => ⟨rfl, by rw [hU], by rw [hU]; exact hPc, va_K.moved hW.alike hK, hDc.weaken (fun _ _ _ _ => trivial), NwA.warm hW hN⟩⟩ rfl rfl hl.1 rfl (lv_room (Nat.le_of_ble_eq_true rfl)) d_Mo_transition_6 ⟨Nat.le_of_ble_eq_true rfl, Nat.le_of_ble_eq_true rfl⟩) hS (fun q _ h => hFc q h) hFc (fun r9 u t H1 locs ht9 hvm hw2 hB hz1 hk1 hSn => ?_)
  replace hP : va_P (dC, dI) clA [(b0, .inr (9, [.int 0, .int 0, .ref b1, .ref b2, .int 0, .int 0, .ref b3, .ref b4, .ref b5, .ref b6, .int 0, .ref b7, .ref b8, .ref b9, .ref b10, .ref b11, .ref b12, .ref b13, .int 0, .int 0, .ref b14, .ref b15, .long 0, .int 0, .int 0, .ref b16, .int (-1), .ref b17]))] H1 := pu_keep hP hk1
  replace hS := hSn
  clear hSn hPc hDc hFc hk1 hz1 ht9 hvm hB
  refine W.cs (cells' := 0) (slots' := 0) rfl rfl ?_
  subst hw2
  refine lv_if_ne (tgt := 23) hx hb d_Mo_transition_9 (by decide) (fun h => (h (by decide)).elim) (fun _ => ?_)
  refine lv_iload_n hx hb d_Mo_transition_12 rfl (lv_at hl 2 rfl) ?_
  refine lv_iconst (v := 0) hx hb d_Mo_transition_13 (by decide) ?_
  refine lv_sipush (v := 255) hx hb d_Mo_transition_14 (by decide) ?_
  have hPc : va_P (dC, dI) clA [] _ := pu_P (H := H1)
  have hDc : va_D (fun _ => True) [] := pu_D
  have hFc := pu_free hS hA
  refine va_calli (va_runS (As := [.int k1, .int 0, .int 255]) (rest := [.ref b0]) ⟨hx, hb, hml, hown, ht⟩ (c_Mo_outside_0_255_lo l dC dI cI cL cZ _ k1 h3) (va_cwS 3 ht (good_S wd_4_94 wd_4_95 wd_1_10 wd_4_96) rfl rfl rfl (by decide +kernel) ⟨Nat.le_of_ble_eq_true rfl, Nat.le_of_ble_eq_true rfl⟩) ⟨fun a U g mk q => by obtain ⟨q0, q1, qP, qK, qD, qN⟩ := q; exact ⟨q0, q1, qP, va_K.moved (u := U) (U := U.calling g mk a) (Vm.Alike.refl U.vm) qK, qD, NwA.same (u := U) rfl qN⟩, fun U hU hW => ⟨rfl, by rw [hU], by rw [hU]; exact hPc, va_K.moved hW.alike hK, hDc.weaken (fun _ _ _ _ => trivial), NwA.warm hW hN⟩⟩ rfl rfl hl.1 rfl (lv_room (Nat.le_of_ble_eq_true rfl)) d_Mo_transition_17 ⟨Nat.le_of_ble_eq_true rfl, Nat.le_of_ble_eq_true rfl⟩) hS (fun q _ h => hFc q h) hFc (fun r9 u t H3 locs ht9 hvm hw4 hB hz1 hk1 hSn => ?_)
  replace hP : va_P (dC, dI) clA [(b0, .inr (9, [.int 0, .int 0, .ref b1, .ref b2, .int 0, .int 0, .ref b3, .ref b4, .ref b5, .ref b6, .int 0, .ref b7, .ref b8, .ref b9, .ref b10, .ref b11, .ref b12, .ref b13, .int 0, .int 0, .ref b14, .ref b15, .long 0, .int 0, .int 0, .ref b16, .int (-1), .ref b17]))] H3 := pu_keep hP hk1
  replace hS := hSn
  clear hSn hPc hDc hFc hk1 hz1 ht9 hvm hB
  refine W.cs (cells' := 0) (slots' := 0) rfl rfl ?_
  subst hw4
  refine lv_if_eq (tgt := 27) hx hb d_Mo_transition_20 (by decide) (fun h => absurd h (by decide)) (fun _ => ?_)
  refine lv_iconst (v := 1) hx hb d_Mo_transition_23 (by decide) ?_
  refine lv_goto (tgt := 41) hx hb d_Mo_transition_24 (by decide) ?_
  refine va_put (D := (dC, dI)) (ci := 9) (v := .int 1) (ty := .int) (C := "NetUnfolderModel") (T := T_Mo) (N := 28) hx hb ht in_Mo ty_Mo ok_Mo nm_Mo hown hK hP hD hS 0 rfl rfl 0 (by decide) (ht _ wd_4_0) (fun _ h9 => h9) rfl (by decide +kernel) rfl rfl (Nat.le_of_ble_eq_true rfl) d_Mo_transition_41 (fun H5 locs hPn hDn hSn => ?_)
  replace hP : va_P (dC, dI) clA [(b0, .inr (9, [.int 1, .int 0, .ref b1, .ref b2, .int 0, .int 0, .ref b3, .ref b4, .ref b5, .ref b6, .int 0, .ref b7, .ref b8, .ref b9, .ref b10, .ref b11, .ref b12, .ref b13, .int 0, .int 0, .ref b14, .ref b15, .long 0, .int 0, .int 0, .ref b16, .int (-1), .ref b17]))] H5 := hPn
  replace hD : va_D A [(b0, .inr (9, [.int 1, .int 0, .ref b1, .ref b2, .int 0, .int 0, .ref b3, .ref b4, .ref b5, .ref b6, .int 0, .ref b7, .ref b8, .ref b9, .ref b10, .ref b11, .ref b12, .ref b13, .int 0, .int 0, .ref b14, .ref b15, .long 0, .int 0, .int 0, .ref b16, .int (-1), .ref b17]))] := hDn
  replace hS := hSn
  clear hPn hDn hSn
  refine lv_aload_n hx hb d_Mo_transition_44 rfl (lv_at hl 0 rfl) ?_
  refine va_get (D := (dC, dI)) (ci := 9) (v := .int 1) (C := "NetUnfolderModel") (T := T_Mo) (N := 28) hx hb ht in_Mo hown hK hP 0 rfl rfl 0 (by decide) (ht _ wd_4_0) (fun _ h9 => h9) rfl d_Mo_transition_45 ?_
  refine lv_if_eq (tgt := 53) hx hb d_Mo_transition_48 (by decide) (fun h => absurd h (by decide)) (fun _ => ?_)
  refine lv_iconst (v := 0) hx hb d_Mo_transition_51 (by decide) ?_
  have hP9 := hP.sub (ws' := [(b0, .inr (9, [.int 1, .int 0, .ref b1, .ref b2, .int 0, .int 0, .ref b3, .ref b4, .ref b5, .ref b6, .int 0, .ref b7, .ref b8, .ref b9, .ref b10, .ref b11, .ref b12, .ref b13, .int 0, .int 0, .ref b14, .ref b15, .long 0, .int 0, .int 0, .ref b16, .int (-1), .ref b17]))]) [0] rfl
  have hD9 := hD.sub (ws' := [(b0, .inr (9, [.int 1, .int 0, .ref b1, .ref b2, .int 0, .int 0, .ref b3, .ref b4, .ref b5, .ref b6, .int 0, .ref b7, .ref b8, .ref b9, .ref b10, .ref b11, .ref b12, .ref b13, .int 0, .int 0, .ref b14, .ref b15, .long 0, .int 0, .int 0, .ref b16, .int (-1), .ref b17]))]) [0] (by decide) rfl
  exact W.iret (v := 0) hx hb hr (fun t ht9 hW => ⟨⟨0, (), rfl, rfl, by rw [ht9]; exact hP9, hD9⟩, hS.F ht9⟩) hS.2.2 d_Mo_transition_52

set_option maxHeartbeats 4000000 in
set_option maxRecDepth 100000 in
theorem c_Mo_transition_3 (l : Launch) (dC : Nat → ClassId) (dI : Nat → Nat → Nat) (cI cL cZ : ClassId) (sz : Nat) (b0 : Nat) (b1 : Nat) (b2 : Nat) (b3 : Nat) (b4 : Nat) (b5 : Nat) (b6 : Nat) (b7 : Nat) (b8 : Nat) (b9 : Nat) (b10 : Nat) (b11 : Nat) (b12 : Nat) (b13 : Nat) (b14 : Nat) (b15 : Nat) (b16 : Nat) (b17 : Nat) (k0 : Int32) (k1 : Int32) (h1 : ¬ k0 < 1) (h2 : ¬ 255 < k0) (h4 : 255 < k1) : Met l y_Mo_transition (Cond.code y_Mo_transition prog_11_method_7_code 3 (some .int) :: wsA) { frames := 1, cells := 0, slots := 0, locals := 22 } (va_Pc [.ref b0, .int k0, .int k1] (fun U => U.heap.size = sz ∧ va_P (dC, dI) clA [(b0, .inr (9, [.int 0, .int 0, .ref b1, .ref b2, .int 0, .int 0, .ref b3, .ref b4, .ref b5, .ref b6, .int 0, .ref b7, .ref b8, .ref b9, .ref b10, .ref b11, .ref b12, .ref b13, .int 0, .int 0, .ref b14, .ref b15, .long 0, .int 0, .int 0, .ref b16, .int (-1), .ref b17]))] U.heap ∧ va_K (dC, dI) clA [(cI, .int), (cL, .long), (cZ, .boolean)] U ∧ va_D (fun _ => True) [(b0, .inr (9, [.int 0, .int 0, .ref b1, .ref b2, .int 0, .int 0, .ref b3, .ref b4, .ref b5, .ref b6, .int 0, .ref b7, .ref b8, .ref b9, .ref b10, .ref b11, .ref b12, .ref b13, .int 0, .int 0, .ref b14, .ref b15, .long 0, .int 0, .int 0, .ref b16, .int (-1), .ref b17]))] ∧ NwA U)) (va_Qi (fun r (_ : Unit) => r = 0) (fun _ t => va_P (dC, dI) clA [(b0, .inr (9, [.int 1, .int 0, .ref b1, .ref b2, .int 0, .int 0, .ref b3, .ref b4, .ref b5, .ref b6, .int 0, .ref b7, .ref b8, .ref b9, .ref b10, .ref b11, .ref b12, .ref b13, .int 0, .int 0, .ref b14, .ref b15, .long 0, .int 0, .int 0, .ref b16, .int (-1), .ref b17]))] t.heap ∧ va_D (va_A [(b0, .inr (9, [.int 0, .int 0, .ref b1, .ref b2, .int 0, .int 0, .ref b3, .ref b4, .ref b5, .ref b6, .int 0, .ref b7, .ref b8, .ref b9, .ref b10, .ref b11, .ref b12, .ref b13, .int 0, .int 0, .ref b14, .ref b15, .long 0, .int 0, .int 0, .ref b16, .int (-1), .ref b17]))] sz) [(b0, .inr (9, [.int 1, .int 0, .ref b1, .ref b2, .int 0, .int 0, .ref b3, .ref b4, .ref b5, .ref b6, .int 0, .ref b7, .ref b8, .ref b9, .ref b10, .ref b11, .ref b12, .ref b13, .int 0, .int 0, .ref b14, .ref b15, .long 0, .int 0, .int 0, .ref b16, .int (-1), .ref b17]))]) (va_A [(b0, .inr (9, [.int 0, .int 0, .ref b1, .ref b2, .int 0, .int 0, .ref b3, .ref b4, .ref b5, .ref b6, .int 0, .ref b7, .ref b8, .ref b9, .ref b10, .ref b11, .ref b12, .ref b13, .int 0, .int 0, .ref b14, .ref b15, .long 0, .int 0, .int 0, .ref b16, .int (-1), .ref b17]))] sz)) 0 0 (va_A [(b0, .inr (9, [.int 0, .int 0, .ref b1, .ref b2, .int 0, .int 0, .ref b3, .ref b4, .ref b5, .ref b6, .int 0, .ref b7, .ref b8, .ref b9, .ref b10, .ref b11, .ref b12, .ref b13, .int 0, .int 0, .ref b14, .ref b15, .long 0, .int 0, .int 0, .ref b16, .int (-1), .ref b17]))] sz) := by
  refine Met.ofW (cc := prog_11_method_7_code) (maxL := 3) (ret := (some .int)) (by decide) rfl ?_
  intro p e s m args below meth c s₁ B hml hv
  obtain ⟨rfl, hsz, hP, hK, hD0, hN⟩ := hv
  have hx := B.exec
  have hb := B.bytes
  have hr := B.returns
  have ht : ∀ w ∈ wsA, w.before _ s = true := fun w h => atoms_spec (ws := (Cond.code y_Mo_transition prog_11_method_7_code 3 (some .int) :: wsA)) B.pre w (List.mem_cons_of_mem _ h)
  have hown : s.vm.findClass "NetUnfolderModel" = some m.cls := findClass_of_methodNamed B.named
  have hlocks := B.notSynchronized
  subst hsz
  have hD := hD0.self (sz := s.heap.size)
  generalize hAe : va_A [(b0, .inr (9, [.int 0, .int 0, .ref b1, .ref b2, .int 0, .int 0, .ref b3, .ref b4, .ref b5, .ref b6, .int 0, .ref b7, .ref b8, .ref b9, .ref b10, .ref b11, .ref b12, .ref b13, .int 0, .int 0, .ref b14, .ref b15, .long 0, .int 0, .int 0, .ref b16, .int (-1), .ref b17]))] s.heap.size = A at hD ⊢
  have hA : ∀ q : Nat, s.heap.size ≤ q → A q := fun q h => by rw [← hAe]; exact Or.inr h
  have hS : va_S A s.heap s.heap [] := va_S.rf
  have hl := lv_entry ([.ref b0, .int k0, .int k1]) (n := 3) (Nat.le_of_ble_eq_true rfl)
  rw [lg_entry_eq]
  generalize (lg_sl ([.ref b0, .int k0, .int k1]) ++ List.replicate (3 - (lg_sl ([.ref b0, .int k0, .int k1])).length) Slot.unset).toArray = ls at hl ⊢
  replace hl : lv_has ls 3 [(0, .ref b0), (1, .int k0), (2, .int k1)] := hl
  refine lv_aload_n hx hb d_Mo_transition_0 rfl (lv_at hl 0 rfl) ?_
  refine lv_iload_n hx hb d_Mo_transition_1 rfl (lv_at hl 1 rfl) ?_
  refine lv_iconst (v := 1) hx hb d_Mo_transition_2 (by decide) ?_
  refine lv_sipush (v := 255) hx hb d_Mo_transition_3 (by decide) ?_
  have hPc : va_P (dC, dI) clA [] _ := pu_P (H := s.heap)
  have hDc : va_D (fun _ => True) [] := pu_D
  have hFc := pu_free hS hA
  refine va_calli (va_runS (As := [.int k0, .int 1, .int 255]) (rest := [.ref b0]) ⟨hx, hb, hml, hown, ht⟩ (c_Mo_outside_1_255_ok l dC dI cI cL cZ _ k0 h1 h2) (va_cwS 3 ht (good_S wd_4_94 wd_4_95 wd_1_10 wd_4_96) rfl rfl rfl (by decide +kernel) ⟨Nat.le_of_ble_eq_true rfl, Nat.le_of_ble_eq_true rfl⟩) ⟨fun a U g mk q => by obtain ⟨q0, q1, qP, qK, qD, qN⟩ := q; exact ⟨q0, q1, qP, va_K.moved (u := U) (U := U.calling g mk a) (Vm.Alike.refl U.vm) qK, qD, NwA.same (u := U) rfl qN⟩, fun U hU hW => ⟨rfl, by rw [hU], by rw [hU]; exact hPc, va_K.moved hW.alike hK, hDc.weaken (fun _ _ _ _ => trivial), NwA.warm hW hN⟩⟩ rfl rfl hl.1 rfl (lv_room (Nat.le_of_ble_eq_true rfl)) d_Mo_transition_6 ⟨Nat.le_of_ble_eq_true rfl, Nat.le_of_ble_eq_true rfl⟩) hS (fun q _ h => hFc q h) hFc (fun r9 u t H1 locs ht9 hvm hw2 hB hz1 hk1 hSn => ?_)
  replace hP : va_P (dC, dI) clA [(b0, .inr (9, [.int 0, .int 0, .ref b1, .ref b2, .int 0, .int 0, .ref b3, .ref b4, .ref b5, .ref b6, .int 0, .ref b7, .ref b8, .ref b9, .ref b10, .ref b11, .ref b12, .ref b13, .int 0, .int 0, .ref b14, .ref b15, .long 0, .int 0, .int 0, .ref b16, .int (-1), .ref b17]))] H1 := pu_keep hP hk1
  replace hS := hSn
  clear hSn hPc hDc hFc hk1 hz1 ht9 hvm hB
  refine W.cs (cells' := 0) (slots' := 0) rfl rfl ?_
  subst hw2
  refine lv_if_ne (tgt := 23) hx hb d_Mo_transition_9 (by decide) (fun h => (h (by decide)).elim) (fun _ => ?_)
  refine lv_iload_n hx hb d_Mo_transition_12 rfl (lv_at hl 2 rfl) ?_
  refine lv_iconst (v := 0) hx hb d_Mo_transition_13 (by decide) ?_
  refine lv_sipush (v := 255) hx hb d_Mo_transition_14 (by decide) ?_
  have hPc : va_P (dC, dI) clA [] _ := pu_P (H := H1)
  have hDc : va_D (fun _ => True) [] := pu_D
  have hFc := pu_free hS hA
  refine va_calli (va_runS (As := [.int k1, .int 0, .int 255]) (rest := [.ref b0]) ⟨hx, hb, hml, hown, ht⟩ (c_Mo_outside_0_255_hi l dC dI cI cL cZ _ k1 (ga_nlt (k := 0) (by decide) (by have eh4 := fb_lt (k := 255) (by decide) h4; omega)) h4) (va_cwS 3 ht (good_S wd_4_94 wd_4_95 wd_1_10 wd_4_96) rfl rfl rfl (by decide +kernel) ⟨Nat.le_of_ble_eq_true rfl, Nat.le_of_ble_eq_true rfl⟩) ⟨fun a U g mk q => by obtain ⟨q0, q1, qP, qK, qD, qN⟩ := q; exact ⟨q0, q1, qP, va_K.moved (u := U) (U := U.calling g mk a) (Vm.Alike.refl U.vm) qK, qD, NwA.same (u := U) rfl qN⟩, fun U hU hW => ⟨rfl, by rw [hU], by rw [hU]; exact hPc, va_K.moved hW.alike hK, hDc.weaken (fun _ _ _ _ => trivial), NwA.warm hW hN⟩⟩ rfl rfl hl.1 rfl (lv_room (Nat.le_of_ble_eq_true rfl)) d_Mo_transition_17 ⟨Nat.le_of_ble_eq_true rfl, Nat.le_of_ble_eq_true rfl⟩) hS (fun q _ h => hFc q h) hFc (fun r9 u t H3 locs ht9 hvm hw4 hB hz1 hk1 hSn => ?_)
  replace hP : va_P (dC, dI) clA [(b0, .inr (9, [.int 0, .int 0, .ref b1, .ref b2, .int 0, .int 0, .ref b3, .ref b4, .ref b5, .ref b6, .int 0, .ref b7, .ref b8, .ref b9, .ref b10, .ref b11, .ref b12, .ref b13, .int 0, .int 0, .ref b14, .ref b15, .long 0, .int 0, .int 0, .ref b16, .int (-1), .ref b17]))] H3 := pu_keep hP hk1
  replace hS := hSn
  clear hSn hPc hDc hFc hk1 hz1 ht9 hvm hB
  refine W.cs (cells' := 0) (slots' := 0) rfl rfl ?_
  subst hw4
  refine lv_if_eq (tgt := 27) hx hb d_Mo_transition_20 (by decide) (fun h => absurd h (by decide)) (fun _ => ?_)
  refine lv_iconst (v := 1) hx hb d_Mo_transition_23 (by decide) ?_
  refine lv_goto (tgt := 41) hx hb d_Mo_transition_24 (by decide) ?_
  refine va_put (D := (dC, dI)) (ci := 9) (v := .int 1) (ty := .int) (C := "NetUnfolderModel") (T := T_Mo) (N := 28) hx hb ht in_Mo ty_Mo ok_Mo nm_Mo hown hK hP hD hS 0 rfl rfl 0 (by decide) (ht _ wd_4_0) (fun _ h9 => h9) rfl (by decide +kernel) rfl rfl (Nat.le_of_ble_eq_true rfl) d_Mo_transition_41 (fun H5 locs hPn hDn hSn => ?_)
  replace hP : va_P (dC, dI) clA [(b0, .inr (9, [.int 1, .int 0, .ref b1, .ref b2, .int 0, .int 0, .ref b3, .ref b4, .ref b5, .ref b6, .int 0, .ref b7, .ref b8, .ref b9, .ref b10, .ref b11, .ref b12, .ref b13, .int 0, .int 0, .ref b14, .ref b15, .long 0, .int 0, .int 0, .ref b16, .int (-1), .ref b17]))] H5 := hPn
  replace hD : va_D A [(b0, .inr (9, [.int 1, .int 0, .ref b1, .ref b2, .int 0, .int 0, .ref b3, .ref b4, .ref b5, .ref b6, .int 0, .ref b7, .ref b8, .ref b9, .ref b10, .ref b11, .ref b12, .ref b13, .int 0, .int 0, .ref b14, .ref b15, .long 0, .int 0, .int 0, .ref b16, .int (-1), .ref b17]))] := hDn
  replace hS := hSn
  clear hPn hDn hSn
  refine lv_aload_n hx hb d_Mo_transition_44 rfl (lv_at hl 0 rfl) ?_
  refine va_get (D := (dC, dI)) (ci := 9) (v := .int 1) (C := "NetUnfolderModel") (T := T_Mo) (N := 28) hx hb ht in_Mo hown hK hP 0 rfl rfl 0 (by decide) (ht _ wd_4_0) (fun _ h9 => h9) rfl d_Mo_transition_45 ?_
  refine lv_if_eq (tgt := 53) hx hb d_Mo_transition_48 (by decide) (fun h => absurd h (by decide)) (fun _ => ?_)
  refine lv_iconst (v := 0) hx hb d_Mo_transition_51 (by decide) ?_
  have hP9 := hP.sub (ws' := [(b0, .inr (9, [.int 1, .int 0, .ref b1, .ref b2, .int 0, .int 0, .ref b3, .ref b4, .ref b5, .ref b6, .int 0, .ref b7, .ref b8, .ref b9, .ref b10, .ref b11, .ref b12, .ref b13, .int 0, .int 0, .ref b14, .ref b15, .long 0, .int 0, .int 0, .ref b16, .int (-1), .ref b17]))]) [0] rfl
  have hD9 := hD.sub (ws' := [(b0, .inr (9, [.int 1, .int 0, .ref b1, .ref b2, .int 0, .int 0, .ref b3, .ref b4, .ref b5, .ref b6, .int 0, .ref b7, .ref b8, .ref b9, .ref b10, .ref b11, .ref b12, .ref b13, .int 0, .int 0, .ref b14, .ref b15, .long 0, .int 0, .int 0, .ref b16, .int (-1), .ref b17]))]) [0] (by decide) rfl
  exact W.iret (v := 0) hx hb hr (fun t ht9 hW => ⟨⟨0, (), rfl, rfl, by rw [ht9]; exact hP9, hD9⟩, hS.F ht9⟩) hS.2.2 d_Mo_transition_52

set_option maxHeartbeats 4000000 in
set_option maxRecDepth 100000 in
theorem c_Mo_first_ok (l : Launch) (dC : Nat → ClassId) (dI : Nat → Nat → Nat) (cI cL cZ : ClassId) (sz : Nat) (b0 : Nat) (b1 : Nat) (b2 : Nat) (b3 : Nat) (b4 : Nat) (b5 : Nat) (b6 : Nat) (b7 : Nat) (b8 : Nat) (b9 : Nat) (b10 : Nat) (b11 : Nat) (b12 : Nat) (b13 : Nat) (b14 : Nat) (b15 : Nat) (b16 : Nat) (b17 : Nat) (k0 : Int32) (h1 : ¬ k0 < 0) (h2 : ¬ 255 < k0) : Met l y_Mo_first (Cond.code y_Mo_first prog_11_method_8_code 2 none :: wsA) { frames := 1, cells := 0, slots := 0, locals := 22 } (va_Pc [.ref b0, .int k0] (fun U => U.heap.size = sz ∧ va_P (dC, dI) clA [(b0, .inr (9, [.int 0, .int 0, .ref b1, .ref b2, .int 0, .int 0, .ref b3, .ref b4, .ref b5, .ref b6, .int 0, .ref b7, .ref b8, .ref b9, .ref b10, .ref b11, .ref b12, .ref b13, .int 0, .int 0, .ref b14, .ref b15, .long 0, .int 0, .int 0, .ref b16, .int (-1), .ref b17]))] U.heap ∧ va_K (dC, dI) clA [(cI, .int), (cL, .long), (cZ, .boolean)] U ∧ va_D (fun _ => True) [(b0, .inr (9, [.int 0, .int 0, .ref b1, .ref b2, .int 0, .int 0, .ref b3, .ref b4, .ref b5, .ref b6, .int 0, .ref b7, .ref b8, .ref b9, .ref b10, .ref b11, .ref b12, .ref b13, .int 0, .int 0, .ref b14, .ref b15, .long 0, .int 0, .int 0, .ref b16, .int (-1), .ref b17]))] ∧ NwA U)) (va_Qv (fun _ : Unit => True) (fun _ t => va_P (dC, dI) clA [(b0, .inr (9, [.int 0, .int 0, .ref b1, .ref b2, .int k0, .int 0, .ref b3, .ref b4, .ref b5, .ref b6, .int 0, .ref b7, .ref b8, .ref b9, .ref b10, .ref b11, .ref b12, .ref b13, .int 0, .int 0, .ref b14, .ref b15, .long 0, .int 0, .int 0, .ref b16, .int (-1), .ref b17]))] t.heap ∧ va_D (va_A [(b0, .inr (9, [.int 0, .int 0, .ref b1, .ref b2, .int 0, .int 0, .ref b3, .ref b4, .ref b5, .ref b6, .int 0, .ref b7, .ref b8, .ref b9, .ref b10, .ref b11, .ref b12, .ref b13, .int 0, .int 0, .ref b14, .ref b15, .long 0, .int 0, .int 0, .ref b16, .int (-1), .ref b17]))] sz) [(b0, .inr (9, [.int 0, .int 0, .ref b1, .ref b2, .int k0, .int 0, .ref b3, .ref b4, .ref b5, .ref b6, .int 0, .ref b7, .ref b8, .ref b9, .ref b10, .ref b11, .ref b12, .ref b13, .int 0, .int 0, .ref b14, .ref b15, .long 0, .int 0, .int 0, .ref b16, .int (-1), .ref b17]))]) (va_A [(b0, .inr (9, [.int 0, .int 0, .ref b1, .ref b2, .int 0, .int 0, .ref b3, .ref b4, .ref b5, .ref b6, .int 0, .ref b7, .ref b8, .ref b9, .ref b10, .ref b11, .ref b12, .ref b13, .int 0, .int 0, .ref b14, .ref b15, .long 0, .int 0, .int 0, .ref b16, .int (-1), .ref b17]))] sz)) 0 0 (va_A [(b0, .inr (9, [.int 0, .int 0, .ref b1, .ref b2, .int 0, .int 0, .ref b3, .ref b4, .ref b5, .ref b6, .int 0, .ref b7, .ref b8, .ref b9, .ref b10, .ref b11, .ref b12, .ref b13, .int 0, .int 0, .ref b14, .ref b15, .long 0, .int 0, .int 0, .ref b16, .int (-1), .ref b17]))] sz) := by
  refine Met.ofW (cc := prog_11_method_8_code) (maxL := 2) (ret := none) (by decide) rfl ?_
  intro p e s m args below meth c s₁ B hml hv
  obtain ⟨rfl, hsz, hP, hK, hD0, hN⟩ := hv
  have hx := B.exec
  have hb := B.bytes
  have hr := B.returns
  have ht : ∀ w ∈ wsA, w.before _ s = true := fun w h => atoms_spec (ws := (Cond.code y_Mo_first prog_11_method_8_code 2 none :: wsA)) B.pre w (List.mem_cons_of_mem _ h)
  have hown : s.vm.findClass "NetUnfolderModel" = some m.cls := findClass_of_methodNamed B.named
  have hlocks := B.notSynchronized
  subst hsz
  have hD := hD0.self (sz := s.heap.size)
  generalize hAe : va_A [(b0, .inr (9, [.int 0, .int 0, .ref b1, .ref b2, .int 0, .int 0, .ref b3, .ref b4, .ref b5, .ref b6, .int 0, .ref b7, .ref b8, .ref b9, .ref b10, .ref b11, .ref b12, .ref b13, .int 0, .int 0, .ref b14, .ref b15, .long 0, .int 0, .int 0, .ref b16, .int (-1), .ref b17]))] s.heap.size = A at hD ⊢
  have hA : ∀ q : Nat, s.heap.size ≤ q → A q := fun q h => by rw [← hAe]; exact Or.inr h
  have hS : va_S A s.heap s.heap [] := va_S.rf
  have hl := lv_entry ([.ref b0, .int k0]) (n := 2) (Nat.le_of_ble_eq_true rfl)
  rw [lg_entry_eq]
  generalize (lg_sl ([.ref b0, .int k0]) ++ List.replicate (2 - (lg_sl ([.ref b0, .int k0])).length) Slot.unset).toArray = ls at hl ⊢
  replace hl : lv_has ls 2 [(0, .ref b0), (1, .int k0)] := hl
  refine lv_aload_n hx hb d_Mo_first_0 rfl (lv_at hl 0 rfl) ?_
  refine lv_iload_n hx hb d_Mo_first_1 rfl (lv_at hl 1 rfl) ?_
  refine lv_iconst (v := 0) hx hb d_Mo_first_2 (by decide) ?_
  refine lv_sipush (v := 255) hx hb d_Mo_first_3 (by decide) ?_
  have hPc : va_P (dC, dI) clA [] _ := pu_P (H := s.heap)
  have hDc : va_D (fun _ => True) [] := pu_D
  have hFc := pu_free hS hA
  refine va_calli (va_runS (As := [.int k0, .int 0, .int 255]) (rest := [.ref b0]) ⟨hx, hb, hml, hown, ht⟩ (c_Mo_outside_0_255_ok l dC dI cI cL cZ _ k0 h1 h2) (va_cwS 3 ht (good_S wd_4_94 wd_4_95 wd_1_10 wd_4_96) rfl rfl rfl (by decide +kernel) ⟨Nat.le_of_ble_eq_true rfl, Nat.le_of_ble_eq_true rfl⟩) ⟨fun a U g mk q => by obtain ⟨q0, q1, qP, qK, qD, qN⟩ := q; exact ⟨q0, q1, qP, va_K.moved (u := U) (U := U.calling g mk a) (Vm.Alike.refl U.vm) qK, qD, NwA.same (u := U) rfl qN⟩, fun U hU hW => ⟨rfl, by rw [hU], by rw [hU]; exact hPc, va_K.moved hW.alike hK, hDc.weaken (fun _ _ _ _ => trivial), NwA.warm hW hN⟩⟩ rfl rfl hl.1 rfl (lv_room (Nat.le_of_ble_eq_true rfl)) d_Mo_first_6 ⟨Nat.le_of_ble_eq_true rfl, Nat.le_of_ble_eq_true rfl⟩) hS (fun q _ h => hFc q h) hFc (fun r9 u t H1 locs ht9 hvm hw2 hB hz1 hk1 hSn => ?_)
  replace hP : va_P (dC, dI) clA [(b0, .inr (9, [.int 0, .int 0, .ref b1, .ref b2, .int 0, .int 0, .ref b3, .ref b4, .ref b5, .ref b6, .int 0, .ref b7, .ref b8, .ref b9, .ref b10, .ref b11, .ref b12, .ref b13, .int 0, .int 0, .ref b14, .ref b15, .long 0, .int 0, .int 0, .ref b16, .int (-1), .ref b17]))] H1 := pu_keep hP hk1
  replace hS := hSn
  clear hSn hPc hDc hFc hk1 hz1 ht9 hvm hB
  refine W.cs (cells' := 0) (slots' := 0) rfl rfl ?_
  subst hw2
  refine lv_if_eq (tgt := 16) hx hb d_Mo_first_9 (by decide) (fun _ => ?_) (fun h => (h (by decide)).elim)
  refine lv_iconst (v := 0) hx hb d_Mo_first_16 (by decide) ?_
  refine va_put (D := (dC, dI)) (ci := 9) (v := .int 0) (ty := .int) (C := "NetUnfolderModel") (T := T_Mo) (N := 28) hx hb ht in_Mo ty_Mo ok_Mo nm_Mo hown hK hP hD hS 0 rfl rfl 0 (by decide) (ht _ wd_4_0) (fun _ h9 => h9) rfl (by decide +kernel) rfl rfl (Nat.le_of_ble_eq_true rfl) d_Mo_first_17 (fun H3 locs hPn hDn hSn => ?_)
  replace hP : va_P (dC, dI) clA [(b0, .inr (9, [.int 0, .int 0, .ref b1, .ref b2, .int 0, .int 0, .ref b3, .ref b4, .ref b5, .ref b6, .int 0, .ref b7, .ref b8, .ref b9, .ref b10, .ref b11, .ref b12, .ref b13, .int 0, .int 0, .ref b14, .ref b15, .long 0, .int 0, .int 0, .ref b16, .int (-1), .ref b17]))] H3 := hPn
  replace hD : va_D A [(b0, .inr (9, [.int 0, .int 0, .ref b1, .ref b2, .int 0, .int 0, .ref b3, .ref b4, .ref b5, .ref b6, .int 0, .ref b7, .ref b8, .ref b9, .ref b10, .ref b11, .ref b12, .ref b13, .int 0, .int 0, .ref b14, .ref b15, .long 0, .int 0, .int 0, .ref b16, .int (-1), .ref b17]))] := hDn
  replace hS := hSn
  clear hPn hDn hSn
  refine lv_aload_n hx hb d_Mo_first_20 rfl (lv_at hl 0 rfl) ?_
  refine va_get (D := (dC, dI)) (ci := 9) (v := .int 0) (C := "NetUnfolderModel") (T := T_Mo) (N := 28) hx hb ht in_Mo hown hK hP 0 rfl rfl 0 (by decide) (ht _ wd_4_0) (fun _ h9 => h9) rfl d_Mo_first_21 ?_
  refine lv_if_eq (tgt := 28) hx hb d_Mo_first_24 (by decide) (fun _ => ?_) (fun h => (h (by decide)).elim)
  refine lv_aload_n hx hb d_Mo_first_28 rfl (lv_at hl 0 rfl) ?_
  refine lv_iload_n hx hb d_Mo_first_29 rfl (lv_at hl 1 rfl) ?_
  refine va_put (D := (dC, dI)) (ci := 9) (v := .int k0) (ty := .int) (C := "NetUnfolderModel") (T := T_Mo) (N := 28) hx hb ht in_Mo ty_Mo ok_Mo nm_Mo hown hK hP hD hS 0 rfl rfl 4 (by decide) (ht _ wd_4_4) (fun _ h9 => h9) rfl (by decide +kernel) rfl rfl (Nat.le_of_ble_eq_true rfl) d_Mo_first_30 (fun H4 locs hPn hDn hSn => ?_)
  replace hP : va_P (dC, dI) clA [(b0, .inr (9, [.int 0, .int 0, .ref b1, .ref b2, .int k0, .int 0, .ref b3, .ref b4, .ref b5, .ref b6, .int 0, .ref b7, .ref b8, .ref b9, .ref b10, .ref b11, .ref b12, .ref b13, .int 0, .int 0, .ref b14, .ref b15, .long 0, .int 0, .int 0, .ref b16, .int (-1), .ref b17]))] H4 := hPn
  replace hD : va_D A [(b0, .inr (9, [.int 0, .int 0, .ref b1, .ref b2, .int k0, .int 0, .ref b3, .ref b4, .ref b5, .ref b6, .int 0, .ref b7, .ref b8, .ref b9, .ref b10, .ref b11, .ref b12, .ref b13, .int 0, .int 0, .ref b14, .ref b15, .long 0, .int 0, .int 0, .ref b16, .int (-1), .ref b17]))] := hDn
  replace hS := hSn
  clear hPn hDn hSn
  refine lv_aload_n hx hb d_Mo_first_33 rfl (lv_at hl 0 rfl) ?_
  have hPc := hP.sub (ws' := [(b0, .inr (9, [.int 0, .int 0, .ref b1, .ref b2, .int k0, .int 0, .ref b3, .ref b4, .ref b5, .ref b6, .int 0, .ref b7, .ref b8, .ref b9, .ref b10, .ref b11, .ref b12, .ref b13, .int 0, .int 0, .ref b14, .ref b15, .long 0, .int 0, .int 0, .ref b16, .int (-1), .ref b17]))]) [0] rfl
  have hDc := hD.sub (ws' := [(b0, .inr (9, [.int 0, .int 0, .ref b1, .ref b2, .int k0, .int 0, .ref b3, .ref b4, .ref b5, .ref b6, .int 0, .ref b7, .ref b8, .ref b9, .ref b10, .ref b11, .ref b12, .ref b13, .int 0, .int 0, .ref b14, .ref b15, .long 0, .int 0, .int 0, .ref b16, .int (-1), .ref b17]))]) [0] (by decide) rfl
  have hFc := va_free (wc := [(b0, .inr (9, [.int 0, .int 0, .ref b1, .ref b2, .int k0, .int 0, .ref b3, .ref b4, .ref b5, .ref b6, .int 0, .ref b7, .ref b8, .ref b9, .ref b10, .ref b11, .ref b12, .ref b13, .int 0, .int 0, .ref b14, .ref b15, .long 0, .int 0, .int 0, .ref b16, .int (-1), .ref b17]))]) hD hS hA [0] rfl
  refine va_callv (va_runV (C := "NetUnfolderModel") (As := []) (rest := []) ⟨hx, hb, hml, hown, ht⟩ (c_Mo_forget l dC dI cI cL cZ _ b0 0 0 b1 b2 k0 0 b3 b4 b5 b6 0 b7 b8 b9 b10 b11 b12 b13 0 0 b14 b15 0 0 0 b16 (-1) b17 ) (cwV 0 ht (good_V wd_4_97 wd_4_99 ws_Mo_forget wd_1_10 wd_4_100) rfl rfl rfl (by decide +kernel) ⟨Nat.le_of_ble_eq_true rfl, Nat.le_of_ble_eq_true rfl⟩) ⟨fun a U g mk q => by obtain ⟨q0, q1, qP, qK, qD, qN⟩ := q; exact ⟨q0, q1, qP, va_K.moved (u := U) (U := U.calling g mk a) (Vm.Alike.refl U.vm) qK, qD, NwA.same (u := U) rfl qN⟩, (va_recv (q0 := 0) (ci := 9) hK hP rfl rfl), fun U hU hW => ⟨rfl, by rw [hU], by rw [hU]; exact hPc, va_K.moved hW.alike hK, hDc.weaken (fun _ _ _ _ => trivial), NwA.warm hW hN⟩⟩ rfl rfl hl.1 rfl (lv_room (Nat.le_of_ble_eq_true rfl)) d_Mo_first_34 ⟨Nat.le_of_ble_eq_true rfl, Nat.le_of_ble_eq_true rfl⟩) hS (fun q _ h => hFc q h) hFc (fun u t H5 locs ht9 hvm hw6 hB hz1 hk1 hSn => ?_)
  obtain ⟨hP1, hD1⟩ := hB
  rw [ht9] at hP1
  obtain ⟨hPn, hDn⟩ := va_join (wr := []) (w1 := [(b0, .inr (9, [.int 0, .int 0, .ref b1, .ref b2, .int k0, .int 0, .ref b3, .ref b4, .ref b5, .ref b6, .int 0, .ref b7, .ref b8, .ref b9, .ref b10, .ref b11, .ref b12, .ref b13, .int 0, .int 0, .ref b14, .ref b15, .long 0, .int 0, .int 0, .ref b16, .int (-1), .ref b17]))]) hP hD [0] [] rfl rfl (by decide) (by decide) hk1 hFc hP1 hD1
  replace hP : va_P (dC, dI) clA [(b0, .inr (9, [.int 0, .int 0, .ref b1, .ref b2, .int k0, .int 0, .ref b3, .ref b4, .ref b5, .ref b6, .int 0, .ref b7, .ref b8, .ref b9, .ref b10, .ref b11, .ref b12, .ref b13, .int 0, .int 0, .ref b14, .ref b15, .long 0, .int 0, .int 0, .ref b16, .int (-1), .ref b17]))] H5 := hPn
  replace hD : va_D A [(b0, .inr (9, [.int 0, .int 0, .ref b1, .ref b2, .int k0, .int 0, .ref b3, .ref b4, .ref b5, .ref b6, .int 0, .ref b7, .ref b8, .ref b9, .ref b10, .ref b11, .ref b12, .ref b13, .int 0, .int 0, .ref b14, .ref b15, .long 0, .int 0, .int 0, .ref b16, .int (-1), .ref b17]))] := hDn
  replace hS := hSn
  clear hPn hDn hSn
  clear hPc hDc hFc hP1 hD1 hk1 hz1 ht9 hvm
  refine W.cs (cells' := 0) (slots' := 0) rfl rfl ?_
  have hP9 := hP.sub (ws' := [(b0, .inr (9, [.int 0, .int 0, .ref b1, .ref b2, .int k0, .int 0, .ref b3, .ref b4, .ref b5, .ref b6, .int 0, .ref b7, .ref b8, .ref b9, .ref b10, .ref b11, .ref b12, .ref b13, .int 0, .int 0, .ref b14, .ref b15, .long 0, .int 0, .int 0, .ref b16, .int (-1), .ref b17]))]) [0] rfl
  have hD9 := hD.sub (ws' := [(b0, .inr (9, [.int 0, .int 0, .ref b1, .ref b2, .int k0, .int 0, .ref b3, .ref b4, .ref b5, .ref b6, .int 0, .ref b7, .ref b8, .ref b9, .ref b10, .ref b11, .ref b12, .ref b13, .int 0, .int 0, .ref b14, .ref b15, .long 0, .int 0, .int 0, .ref b16, .int (-1), .ref b17]))]) [0] (by decide) rfl
  exact W.vret hx hb hr (fun t ht9 hW => ⟨⟨(), rfl, trivial, by rw [ht9]; exact hP9, hD9⟩, hS.F ht9⟩) hS.2.2 d_Mo_first_37

set_option maxHeartbeats 4000000 in
set_option maxRecDepth 100000 in
theorem c_Mo_first_0 (l : Launch) (dC : Nat → ClassId) (dI : Nat → Nat → Nat) (cI cL cZ : ClassId) (sz : Nat) (b0 : Nat) (b1 : Nat) (b2 : Nat) (b3 : Nat) (b4 : Nat) (b5 : Nat) (b6 : Nat) (b7 : Nat) (b8 : Nat) (b9 : Nat) (b10 : Nat) (b11 : Nat) (b12 : Nat) (b13 : Nat) (b14 : Nat) (b15 : Nat) (b16 : Nat) (b17 : Nat) (k0 : Int32) (h1 : k0 < 0) : Met l y_Mo_first (Cond.code y_Mo_first prog_11_method_8_code 2 none :: wsA) { frames := 1, cells := 0, slots := 0, locals := 22 } (va_Pc [.ref b0, .int k0] (fun U => U.heap.size = sz ∧ va_P (dC, dI) clA [(b0, .inr (9, [.int 0, .int 0, .ref b1, .ref b2, .int 0, .int 0, .ref b3, .ref b4, .ref b5, .ref b6, .int 0, .ref b7, .ref b8, .ref b9, .ref b10, .ref b11, .ref b12, .ref b13, .int 0, .int 0, .ref b14, .ref b15, .long 0, .int 0, .int 0, .ref b16, .int (-1), .ref b17]))] U.heap ∧ va_K (dC, dI) clA [(cI, .int), (cL, .long), (cZ, .boolean)] U ∧ va_D (fun _ => True) [(b0, .inr (9, [.int 0, .int 0, .ref b1, .ref b2, .int 0, .int 0, .ref b3, .ref b4, .ref b5, .ref b6, .int 0, .ref b7, .ref b8, .ref b9, .ref b10, .ref b11, .ref b12, .ref b13, .int 0, .int 0, .ref b14, .ref b15, .long 0, .int 0, .int 0, .ref b16, .int (-1), .ref b17]))] ∧ NwA U)) (va_Qv (fun _ : Unit => True) (fun _ t => va_P (dC, dI) clA [(b0, .inr (9, [.int 1, .int 0, .ref b1, .ref b2, .int 0, .int 0, .ref b3, .ref b4, .ref b5, .ref b6, .int 0, .ref b7, .ref b8, .ref b9, .ref b10, .ref b11, .ref b12, .ref b13, .int 0, .int 0, .ref b14, .ref b15, .long 0, .int 0, .int 0, .ref b16, .int (-1), .ref b17]))] t.heap ∧ va_D (va_A [(b0, .inr (9, [.int 0, .int 0, .ref b1, .ref b2, .int 0, .int 0, .ref b3, .ref b4, .ref b5, .ref b6, .int 0, .ref b7, .ref b8, .ref b9, .ref b10, .ref b11, .ref b12, .ref b13, .int 0, .int 0, .ref b14, .ref b15, .long 0, .int 0, .int 0, .ref b16, .int (-1), .ref b17]))] sz) [(b0, .inr (9, [.int 1, .int 0, .ref b1, .ref b2, .int 0, .int 0, .ref b3, .ref b4, .ref b5, .ref b6, .int 0, .ref b7, .ref b8, .ref b9, .ref b10, .ref b11, .ref b12, .ref b13, .int 0, .int 0, .ref b14, .ref b15, .long 0, .int 0, .int 0, .ref b16, .int (-1), .ref b17]))]) (va_A [(b0, .inr (9, [.int 0, .int 0, .ref b1, .ref b2, .int 0, .int 0, .ref b3, .ref b4, .ref b5, .ref b6, .int 0, .ref b7, .ref b8, .ref b9, .ref b10, .ref b11, .ref b12, .ref b13, .int 0, .int 0, .ref b14, .ref b15, .long 0, .int 0, .int 0, .ref b16, .int (-1), .ref b17]))] sz)) 0 0 (va_A [(b0, .inr (9, [.int 0, .int 0, .ref b1, .ref b2, .int 0, .int 0, .ref b3, .ref b4, .ref b5, .ref b6, .int 0, .ref b7, .ref b8, .ref b9, .ref b10, .ref b11, .ref b12, .ref b13, .int 0, .int 0, .ref b14, .ref b15, .long 0, .int 0, .int 0, .ref b16, .int (-1), .ref b17]))] sz) := by
  refine Met.ofW (cc := prog_11_method_8_code) (maxL := 2) (ret := none) (by decide) rfl ?_
  intro p e s m args below meth c s₁ B hml hv
  obtain ⟨rfl, hsz, hP, hK, hD0, hN⟩ := hv
  have hx := B.exec
  have hb := B.bytes
  have hr := B.returns
  have ht : ∀ w ∈ wsA, w.before _ s = true := fun w h => atoms_spec (ws := (Cond.code y_Mo_first prog_11_method_8_code 2 none :: wsA)) B.pre w (List.mem_cons_of_mem _ h)
  have hown : s.vm.findClass "NetUnfolderModel" = some m.cls := findClass_of_methodNamed B.named
  have hlocks := B.notSynchronized
  subst hsz
  have hD := hD0.self (sz := s.heap.size)
  generalize hAe : va_A [(b0, .inr (9, [.int 0, .int 0, .ref b1, .ref b2, .int 0, .int 0, .ref b3, .ref b4, .ref b5, .ref b6, .int 0, .ref b7, .ref b8, .ref b9, .ref b10, .ref b11, .ref b12, .ref b13, .int 0, .int 0, .ref b14, .ref b15, .long 0, .int 0, .int 0, .ref b16, .int (-1), .ref b17]))] s.heap.size = A at hD ⊢
  have hA : ∀ q : Nat, s.heap.size ≤ q → A q := fun q h => by rw [← hAe]; exact Or.inr h
  have hS : va_S A s.heap s.heap [] := va_S.rf
  have hl := lv_entry ([.ref b0, .int k0]) (n := 2) (Nat.le_of_ble_eq_true rfl)
  rw [lg_entry_eq]
  generalize (lg_sl ([.ref b0, .int k0]) ++ List.replicate (2 - (lg_sl ([.ref b0, .int k0])).length) Slot.unset).toArray = ls at hl ⊢
  replace hl : lv_has ls 2 [(0, .ref b0), (1, .int k0)] := hl
  refine lv_aload_n hx hb d_Mo_first_0 rfl (lv_at hl 0 rfl) ?_
  refine lv_iload_n hx hb d_Mo_first_1 rfl (lv_at hl 1 rfl) ?_
  refine lv_iconst (v := 0) hx hb d_Mo_first_2 (by decide) ?_
  refine lv_sipush (v := 255) hx hb d_Mo_first_3 (by decide) ?_
  have hPc : va_P (dC, dI) clA [] _ := pu_P (H := s.heap)
  have hDc : va_D (fun _ => True) [] := pu_D
  have hFc := pu_free hS hA
  refine va_calli (va_runS (As := [.int k0, .int 0, .int 255]) (rest := [.ref b0]) ⟨hx, hb, hml, hown, ht⟩ (c_Mo_outside_0_255_lo l dC dI cI cL cZ _ k0 h1) (va_cwS 3 ht (good_S wd_4_94 wd_4_95 wd_1_10 wd_4_96) rfl rfl rfl (by decide +kernel) ⟨Nat.le_of_ble_eq_true rfl, Nat.le_of_ble_eq_true rfl⟩) ⟨fun a U g mk q => by obtain ⟨q0, q1, qP, qK, qD, qN⟩ := q; exact ⟨q0, q1, qP, va_K.moved (u := U) (U := U.calling g mk a) (Vm.Alike.refl U.vm) qK, qD, NwA.same (u := U) rfl qN⟩, fun U hU hW => ⟨rfl, by rw [hU], by rw [hU]; exact hPc, va_K.moved hW.alike hK, hDc.weaken (fun _ _ _ _ => trivial), NwA.warm hW hN⟩⟩ rfl rfl hl.1 rfl (lv_room (Nat.le_of_ble_eq_true rfl)) d_Mo_first_6 ⟨Nat.le_of_ble_eq_true rfl, Nat.le_of_ble_eq_true rfl⟩) hS (fun q _ h => hFc q h) hFc (fun r9 u t H1 locs ht9 hvm hw2 hB hz1 hk1 hSn => ?_)
  replace hP : va_P (dC, dI) clA [(b0, .inr (9, [.int 0, .int 0, .ref b1, .ref b2, .int 0, .int 0, .ref b3, .ref b4, .ref b5, .ref b6, .int 0, .ref b7, .ref b8, .ref b9, .ref b10, .ref b11, .ref b12, .ref b13, .int 0, .int 0, .ref b14, .ref b15, .long 0, .int 0, .int 0, .ref b16, .int (-1), .ref b17]))] H1 := pu_keep hP hk1
  replace hS := hSn
  clear hSn hPc hDc hFc hk1 hz1 ht9 hvm hB
  refine W.cs (cells' := 0) (slots' := 0) rfl rfl ?_
  subst hw2
  refine lv_if_eq (tgt := 16) hx hb d_Mo_first_9 (by decide) (fun h => absurd h (by decide)) (fun _ => ?_)
  refine lv_iconst (v := 1) hx hb d_Mo_first_12 (by decide) ?_
  refine lv_goto (tgt := 17) hx hb d_Mo_first_13 (by decide) ?_
  refine va_put (D := (dC, dI)) (ci := 9) (v := .int 1) (ty := .int) (C := "NetUnfolderModel") (T := T_Mo) (N := 28) hx hb ht in_Mo ty_Mo ok_Mo nm_Mo hown hK hP hD hS 0 rfl rfl 0 (by decide) (ht _ wd_4_0) (fun _ h9 => h9) rfl (by decide +kernel) rfl rfl (Nat.le_of_ble_eq_true rfl) d_Mo_first_17 (fun H3 locs hPn hDn hSn => ?_)
  replace hP : va_P (dC, dI) clA [(b0, .inr (9, [.int 1, .int 0, .ref b1, .ref b2, .int 0, .int 0, .ref b3, .ref b4, .ref b5, .ref b6, .int 0, .ref b7, .ref b8, .ref b9, .ref b10, .ref b11, .ref b12, .ref b13, .int 0, .int 0, .ref b14, .ref b15, .long 0, .int 0, .int 0, .ref b16, .int (-1), .ref b17]))] H3 := hPn
  replace hD : va_D A [(b0, .inr (9, [.int 1, .int 0, .ref b1, .ref b2, .int 0, .int 0, .ref b3, .ref b4, .ref b5, .ref b6, .int 0, .ref b7, .ref b8, .ref b9, .ref b10, .ref b11, .ref b12, .ref b13, .int 0, .int 0, .ref b14, .ref b15, .long 0, .int 0, .int 0, .ref b16, .int (-1), .ref b17]))] := hDn
  replace hS := hSn
  clear hPn hDn hSn
  refine lv_aload_n hx hb d_Mo_first_20 rfl (lv_at hl 0 rfl) ?_
  refine va_get (D := (dC, dI)) (ci := 9) (v := .int 1) (C := "NetUnfolderModel") (T := T_Mo) (N := 28) hx hb ht in_Mo hown hK hP 0 rfl rfl 0 (by decide) (ht _ wd_4_0) (fun _ h9 => h9) rfl d_Mo_first_21 ?_
  refine lv_if_eq (tgt := 28) hx hb d_Mo_first_24 (by decide) (fun h => absurd h (by decide)) (fun _ => ?_)
  have hP9 := hP.sub (ws' := [(b0, .inr (9, [.int 1, .int 0, .ref b1, .ref b2, .int 0, .int 0, .ref b3, .ref b4, .ref b5, .ref b6, .int 0, .ref b7, .ref b8, .ref b9, .ref b10, .ref b11, .ref b12, .ref b13, .int 0, .int 0, .ref b14, .ref b15, .long 0, .int 0, .int 0, .ref b16, .int (-1), .ref b17]))]) [0] rfl
  have hD9 := hD.sub (ws' := [(b0, .inr (9, [.int 1, .int 0, .ref b1, .ref b2, .int 0, .int 0, .ref b3, .ref b4, .ref b5, .ref b6, .int 0, .ref b7, .ref b8, .ref b9, .ref b10, .ref b11, .ref b12, .ref b13, .int 0, .int 0, .ref b14, .ref b15, .long 0, .int 0, .int 0, .ref b16, .int (-1), .ref b17]))]) [0] (by decide) rfl
  exact W.vret hx hb hr (fun t ht9 hW => ⟨⟨(), rfl, trivial, by rw [ht9]; exact hP9, hD9⟩, hS.F ht9⟩) hS.2.2 d_Mo_first_27

set_option maxHeartbeats 4000000 in
set_option maxRecDepth 100000 in
theorem c_Mo_first_1 (l : Launch) (dC : Nat → ClassId) (dI : Nat → Nat → Nat) (cI cL cZ : ClassId) (sz : Nat) (b0 : Nat) (b1 : Nat) (b2 : Nat) (b3 : Nat) (b4 : Nat) (b5 : Nat) (b6 : Nat) (b7 : Nat) (b8 : Nat) (b9 : Nat) (b10 : Nat) (b11 : Nat) (b12 : Nat) (b13 : Nat) (b14 : Nat) (b15 : Nat) (b16 : Nat) (b17 : Nat) (k0 : Int32) (h2 : 255 < k0) : Met l y_Mo_first (Cond.code y_Mo_first prog_11_method_8_code 2 none :: wsA) { frames := 1, cells := 0, slots := 0, locals := 22 } (va_Pc [.ref b0, .int k0] (fun U => U.heap.size = sz ∧ va_P (dC, dI) clA [(b0, .inr (9, [.int 0, .int 0, .ref b1, .ref b2, .int 0, .int 0, .ref b3, .ref b4, .ref b5, .ref b6, .int 0, .ref b7, .ref b8, .ref b9, .ref b10, .ref b11, .ref b12, .ref b13, .int 0, .int 0, .ref b14, .ref b15, .long 0, .int 0, .int 0, .ref b16, .int (-1), .ref b17]))] U.heap ∧ va_K (dC, dI) clA [(cI, .int), (cL, .long), (cZ, .boolean)] U ∧ va_D (fun _ => True) [(b0, .inr (9, [.int 0, .int 0, .ref b1, .ref b2, .int 0, .int 0, .ref b3, .ref b4, .ref b5, .ref b6, .int 0, .ref b7, .ref b8, .ref b9, .ref b10, .ref b11, .ref b12, .ref b13, .int 0, .int 0, .ref b14, .ref b15, .long 0, .int 0, .int 0, .ref b16, .int (-1), .ref b17]))] ∧ NwA U)) (va_Qv (fun _ : Unit => True) (fun _ t => va_P (dC, dI) clA [(b0, .inr (9, [.int 1, .int 0, .ref b1, .ref b2, .int 0, .int 0, .ref b3, .ref b4, .ref b5, .ref b6, .int 0, .ref b7, .ref b8, .ref b9, .ref b10, .ref b11, .ref b12, .ref b13, .int 0, .int 0, .ref b14, .ref b15, .long 0, .int 0, .int 0, .ref b16, .int (-1), .ref b17]))] t.heap ∧ va_D (va_A [(b0, .inr (9, [.int 0, .int 0, .ref b1, .ref b2, .int 0, .int 0, .ref b3, .ref b4, .ref b5, .ref b6, .int 0, .ref b7, .ref b8, .ref b9, .ref b10, .ref b11, .ref b12, .ref b13, .int 0, .int 0, .ref b14, .ref b15, .long 0, .int 0, .int 0, .ref b16, .int (-1), .ref b17]))] sz) [(b0, .inr (9, [.int 1, .int 0, .ref b1, .ref b2, .int 0, .int 0, .ref b3, .ref b4, .ref b5, .ref b6, .int 0, .ref b7, .ref b8, .ref b9, .ref b10, .ref b11, .ref b12, .ref b13, .int 0, .int 0, .ref b14, .ref b15, .long 0, .int 0, .int 0, .ref b16, .int (-1), .ref b17]))]) (va_A [(b0, .inr (9, [.int 0, .int 0, .ref b1, .ref b2, .int 0, .int 0, .ref b3, .ref b4, .ref b5, .ref b6, .int 0, .ref b7, .ref b8, .ref b9, .ref b10, .ref b11, .ref b12, .ref b13, .int 0, .int 0, .ref b14, .ref b15, .long 0, .int 0, .int 0, .ref b16, .int (-1), .ref b17]))] sz)) 0 0 (va_A [(b0, .inr (9, [.int 0, .int 0, .ref b1, .ref b2, .int 0, .int 0, .ref b3, .ref b4, .ref b5, .ref b6, .int 0, .ref b7, .ref b8, .ref b9, .ref b10, .ref b11, .ref b12, .ref b13, .int 0, .int 0, .ref b14, .ref b15, .long 0, .int 0, .int 0, .ref b16, .int (-1), .ref b17]))] sz) := by
  refine Met.ofW (cc := prog_11_method_8_code) (maxL := 2) (ret := none) (by decide) rfl ?_
  intro p e s m args below meth c s₁ B hml hv
  obtain ⟨rfl, hsz, hP, hK, hD0, hN⟩ := hv
  have hx := B.exec
  have hb := B.bytes
  have hr := B.returns
  have ht : ∀ w ∈ wsA, w.before _ s = true := fun w h => atoms_spec (ws := (Cond.code y_Mo_first prog_11_method_8_code 2 none :: wsA)) B.pre w (List.mem_cons_of_mem _ h)
  have hown : s.vm.findClass "NetUnfolderModel" = some m.cls := findClass_of_methodNamed B.named
  have hlocks := B.notSynchronized
  subst hsz
  have hD := hD0.self (sz := s.heap.size)
  generalize hAe : va_A [(b0, .inr (9, [.int 0, .int 0, .ref b1, .ref b2, .int 0, .int 0, .ref b3, .ref b4, .ref b5, .ref b6, .int 0, .ref b7, .ref b8, .ref b9, .ref b10, .ref b11, .ref b12, .ref b13, .int 0, .int 0, .ref b14, .ref b15, .long 0, .int 0, .int 0, .ref b16, .int (-1), .ref b17]))] s.heap.size = A at hD ⊢
  have hA : ∀ q : Nat, s.heap.size ≤ q → A q := fun q h => by rw [← hAe]; exact Or.inr h
  have hS : va_S A s.heap s.heap [] := va_S.rf
  have hl := lv_entry ([.ref b0, .int k0]) (n := 2) (Nat.le_of_ble_eq_true rfl)
  rw [lg_entry_eq]
  generalize (lg_sl ([.ref b0, .int k0]) ++ List.replicate (2 - (lg_sl ([.ref b0, .int k0])).length) Slot.unset).toArray = ls at hl ⊢
  replace hl : lv_has ls 2 [(0, .ref b0), (1, .int k0)] := hl
  refine lv_aload_n hx hb d_Mo_first_0 rfl (lv_at hl 0 rfl) ?_
  refine lv_iload_n hx hb d_Mo_first_1 rfl (lv_at hl 1 rfl) ?_
  refine lv_iconst (v := 0) hx hb d_Mo_first_2 (by decide) ?_
  refine lv_sipush (v := 255) hx hb d_Mo_first_3 (by decide) ?_
  have hPc : va_P (dC, dI) clA [] _ := pu_P (H := s.heap)
  have hDc : va_D (fun _ => True) [] := pu_D
  have hFc := pu_free hS hA
  refine va_calli (va_runS (As := [.int k0, .int 0, .int 255]) (rest := [.ref b0]) ⟨hx, hb, hml, hown, ht⟩ (c_Mo_outside_0_255_hi l dC dI cI cL cZ _ k0 (ga_nlt (k := 0) (by decide) (by have eh2 := fb_lt (k := 255) (by decide) h2; omega)) h2) (va_cwS 3 ht (good_S wd_4_94 wd_4_95 wd_1_10 wd_4_96) rfl rfl rfl (by decide +kernel) ⟨Nat.le_of_ble_eq_true rfl, Nat.le_of_ble_eq_true rfl⟩) ⟨fun a U g mk q => by obtain ⟨q0, q1, qP, qK, qD, qN⟩ := q; exact ⟨q0, q1, qP, va_K.moved (u := U) (U := U.calling g mk a) (Vm.Alike.refl U.vm) qK, qD, NwA.same (u := U) rfl qN⟩, fun U hU hW => ⟨rfl, by rw [hU], by rw [hU]; exact hPc, va_K.moved hW.alike hK, hDc.weaken (fun _ _ _ _ => trivial), NwA.warm hW hN⟩⟩ rfl rfl hl.1 rfl (lv_room (Nat.le_of_ble_eq_true rfl)) d_Mo_first_6 ⟨Nat.le_of_ble_eq_true rfl, Nat.le_of_ble_eq_true rfl⟩) hS (fun q _ h => hFc q h) hFc (fun r9 u t H1 locs ht9 hvm hw2 hB hz1 hk1 hSn => ?_)
  replace hP : va_P (dC, dI) clA [(b0, .inr (9, [.int 0, .int 0, .ref b1, .ref b2, .int 0, .int 0, .ref b3, .ref b4, .ref b5, .ref b6, .int 0, .ref b7, .ref b8, .ref b9, .ref b10, .ref b11, .ref b12, .ref b13, .int 0, .int 0, .ref b14, .ref b15, .long 0, .int 0, .int 0, .ref b16, .int (-1), .ref b17]))] H1 := pu_keep hP hk1
  replace hS := hSn
  clear hSn hPc hDc hFc hk1 hz1 ht9 hvm hB
  refine W.cs (cells' := 0) (slots' := 0) rfl rfl ?_
  subst hw2
  refine lv_if_eq (tgt := 16) hx hb d_Mo_first_9 (by decide) (fun h => absurd h (by decide)) (fun _ => ?_)
  refine lv_iconst (v := 1) hx hb d_Mo_first_12 (by decide) ?_
  refine lv_goto (tgt := 17) hx hb d_Mo_first_13 (by decide) ?_
  refine va_put (D := (dC, dI)) (ci := 9) (v := .int 1) (ty := .int) (C := "NetUnfolderModel") (T := T_Mo) (N := 28) hx hb ht in_Mo ty_Mo ok_Mo nm_Mo hown hK hP hD hS 0 rfl rfl 0 (by decide) (ht _ wd_4_0) (fun _ h9 => h9) rfl (by decide +kernel) rfl rfl (Nat.le_of_ble_eq_true rfl) d_Mo_first_17 (fun H3 locs hPn hDn hSn => ?_)
  replace hP : va_P (dC, dI) clA [(b0, .inr (9, [.int 1, .int 0, .ref b1, .ref b2, .int 0, .int 0, .ref b3, .ref b4, .ref b5, .ref b6, .int 0, .ref b7, .ref b8, .ref b9, .ref b10, .ref b11, .ref b12, .ref b13, .int 0, .int 0, .ref b14, .ref b15, .long 0, .int 0, .int 0, .ref b16, .int (-1), .ref b17]))] H3 := hPn
  replace hD : va_D A [(b0, .inr (9, [.int 1, .int 0, .ref b1, .ref b2, .int 0, .int 0, .ref b3, .ref b4, .ref b5, .ref b6, .int 0, .ref b7, .ref b8, .ref b9, .ref b10, .ref b11, .ref b12, .ref b13, .int 0, .int 0, .ref b14, .ref b15, .long 0, .int 0, .int 0, .ref b16, .int (-1), .ref b17]))] := hDn
  replace hS := hSn
  clear hPn hDn hSn
  refine lv_aload_n hx hb d_Mo_first_20 rfl (lv_at hl 0 rfl) ?_
  refine va_get (D := (dC, dI)) (ci := 9) (v := .int 1) (C := "NetUnfolderModel") (T := T_Mo) (N := 28) hx hb ht in_Mo hown hK hP 0 rfl rfl 0 (by decide) (ht _ wd_4_0) (fun _ h9 => h9) rfl d_Mo_first_21 ?_
  refine lv_if_eq (tgt := 28) hx hb d_Mo_first_24 (by decide) (fun h => absurd h (by decide)) (fun _ => ?_)
  have hP9 := hP.sub (ws' := [(b0, .inr (9, [.int 1, .int 0, .ref b1, .ref b2, .int 0, .int 0, .ref b3, .ref b4, .ref b5, .ref b6, .int 0, .ref b7, .ref b8, .ref b9, .ref b10, .ref b11, .ref b12, .ref b13, .int 0, .int 0, .ref b14, .ref b15, .long 0, .int 0, .int 0, .ref b16, .int (-1), .ref b17]))]) [0] rfl
  have hD9 := hD.sub (ws' := [(b0, .inr (9, [.int 1, .int 0, .ref b1, .ref b2, .int 0, .int 0, .ref b3, .ref b4, .ref b5, .ref b6, .int 0, .ref b7, .ref b8, .ref b9, .ref b10, .ref b11, .ref b12, .ref b13, .int 0, .int 0, .ref b14, .ref b15, .long 0, .int 0, .int 0, .ref b16, .int (-1), .ref b17]))]) [0] (by decide) rfl
  exact W.vret hx hb hr (fun t ht9 hW => ⟨⟨(), rfl, trivial, by rw [ht9]; exact hP9, hD9⟩, hS.F ht9⟩) hS.2.2 d_Mo_first_27

set_option maxHeartbeats 4000000 in
set_option maxRecDepth 100000 in
theorem c_Mo_clear (l : Launch) (dC : Nat → ClassId) (dI : Nat → Nat → Nat) (cI cL cZ : ClassId) (sz : Nat) (b0 : Nat) (b1 : Nat) (b2 : Nat) (b3 : Nat) (b4 : Nat) (b5 : Nat) (b6 : Nat) (b7 : Nat) (b8 : Nat) (b9 : Nat) (b10 : Nat) (b11 : Nat) (b12 : Nat) (b13 : Nat) (b14 : Nat) (b15 : Nat) (b16 : Nat) (b17 : Nat) : Met l y_Mo_clear (Cond.code y_Mo_clear prog_11_method_9_code 1 none :: wsA) { frames := 1, cells := 0, slots := 0, locals := 20 } (va_Pc [.ref b0] (fun U => U.heap.size = sz ∧ va_P (dC, dI) clA [(b0, .inr (9, [.int 0, .int 0, .ref b1, .ref b2, .int 0, .int 0, .ref b3, .ref b4, .ref b5, .ref b6, .int 0, .ref b7, .ref b8, .ref b9, .ref b10, .ref b11, .ref b12, .ref b13, .int 0, .int 0, .ref b14, .ref b15, .long 0, .int 0, .int 0, .ref b16, .int (-1), .ref b17]))] U.heap ∧ va_K (dC, dI) clA [(cI, .int), (cL, .long), (cZ, .boolean)] U ∧ va_D (fun _ => True) [(b0, .inr (9, [.int 0, .int 0, .ref b1, .ref b2, .int 0, .int 0, .ref b3, .ref b4, .ref b5, .ref b6, .int 0, .ref b7, .ref b8, .ref b9, .ref b10, .ref b11, .ref b12, .ref b13, .int 0, .int 0, .ref b14, .ref b15, .long 0, .int 0, .int 0, .ref b16, .int (-1), .ref b17]))] ∧ NwA U)) (va_Qv (fun _ : Unit => True) (fun _ t => va_P (dC, dI) clA [(b0, .inr (9, [.int 0, .int 0, .ref b1, .ref b2, .int 0, .int 0, .ref b3, .ref b4, .ref b5, .ref b6, .int 0, .ref b7, .ref b8, .ref b9, .ref b10, .ref b11, .ref b12, .ref b13, .int 0, .int 0, .ref b14, .ref b15, .long 0, .int 0, .int 0, .ref b16, .int (-1), .ref b17]))] t.heap ∧ va_D (va_A [(b0, .inr (9, [.int 0, .int 0, .ref b1, .ref b2, .int 0, .int 0, .ref b3, .ref b4, .ref b5, .ref b6, .int 0, .ref b7, .ref b8, .ref b9, .ref b10, .ref b11, .ref b12, .ref b13, .int 0, .int 0, .ref b14, .ref b15, .long 0, .int 0, .int 0, .ref b16, .int (-1), .ref b17]))] sz) [(b0, .inr (9, [.int 0, .int 0, .ref b1, .ref b2, .int 0, .int 0, .ref b3, .ref b4, .ref b5, .ref b6, .int 0, .ref b7, .ref b8, .ref b9, .ref b10, .ref b11, .ref b12, .ref b13, .int 0, .int 0, .ref b14, .ref b15, .long 0, .int 0, .int 0, .ref b16, .int (-1), .ref b17]))]) (va_A [(b0, .inr (9, [.int 0, .int 0, .ref b1, .ref b2, .int 0, .int 0, .ref b3, .ref b4, .ref b5, .ref b6, .int 0, .ref b7, .ref b8, .ref b9, .ref b10, .ref b11, .ref b12, .ref b13, .int 0, .int 0, .ref b14, .ref b15, .long 0, .int 0, .int 0, .ref b16, .int (-1), .ref b17]))] sz)) 0 0 (va_A [(b0, .inr (9, [.int 0, .int 0, .ref b1, .ref b2, .int 0, .int 0, .ref b3, .ref b4, .ref b5, .ref b6, .int 0, .ref b7, .ref b8, .ref b9, .ref b10, .ref b11, .ref b12, .ref b13, .int 0, .int 0, .ref b14, .ref b15, .long 0, .int 0, .int 0, .ref b16, .int (-1), .ref b17]))] sz) := by
  refine Met.ofW (cc := prog_11_method_9_code) (maxL := 1) (ret := none) (by decide) rfl ?_
  intro p e s m args below meth c s₁ B hml hv
  obtain ⟨rfl, hsz, hP, hK, hD0, hN⟩ := hv
  have hx := B.exec
  have hb := B.bytes
  have hr := B.returns
  have ht : ∀ w ∈ wsA, w.before _ s = true := fun w h => atoms_spec (ws := (Cond.code y_Mo_clear prog_11_method_9_code 1 none :: wsA)) B.pre w (List.mem_cons_of_mem _ h)
  have hown : s.vm.findClass "NetUnfolderModel" = some m.cls := findClass_of_methodNamed B.named
  have hlocks := B.notSynchronized
  subst hsz
  have hD := hD0.self (sz := s.heap.size)
  generalize hAe : va_A [(b0, .inr (9, [.int 0, .int 0, .ref b1, .ref b2, .int 0, .int 0, .ref b3, .ref b4, .ref b5, .ref b6, .int 0, .ref b7, .ref b8, .ref b9, .ref b10, .ref b11, .ref b12, .ref b13, .int 0, .int 0, .ref b14, .ref b15, .long 0, .int 0, .int 0, .ref b16, .int (-1), .ref b17]))] s.heap.size = A at hD ⊢
  have hA : ∀ q : Nat, s.heap.size ≤ q → A q := fun q h => by rw [← hAe]; exact Or.inr h
  have hS : va_S A s.heap s.heap [] := va_S.rf
  have hl := lv_entry ([.ref b0]) (n := 1) (Nat.le_of_ble_eq_true rfl)
  rw [lg_entry_eq]
  generalize (lg_sl ([.ref b0]) ++ List.replicate (1 - (lg_sl ([.ref b0])).length) Slot.unset).toArray = ls at hl ⊢
  replace hl : lv_has ls 1 [(0, .ref b0)] := hl
  refine lv_aload_n hx hb d_Mo_clear_0 rfl (lv_at hl 0 rfl) ?_
  refine lv_iconst (v := 0) hx hb d_Mo_clear_1 (by decide) ?_
  refine va_put (D := (dC, dI)) (ci := 9) (v := .int 0) (ty := .int) (C := "NetUnfolderModel") (T := T_Mo) (N := 28) hx hb ht in_Mo ty_Mo ok_Mo nm_Mo hown hK hP hD hS 0 rfl rfl 0 (by decide) (ht _ wd_4_0) (fun _ h9 => h9) rfl (by decide +kernel) rfl rfl (Nat.le_of_ble_eq_true rfl) d_Mo_clear_2 (fun H1 locs hPn hDn hSn => ?_)
  replace hP : va_P (dC, dI) clA [(b0, .inr (9, [.int 0, .int 0, .ref b1, .ref b2, .int 0, .int 0, .ref b3, .ref b4, .ref b5, .ref b6, .int 0, .ref b7, .ref b8, .ref b9, .ref b10, .ref b11, .ref b12, .ref b13, .int 0, .int 0, .ref b14, .ref b15, .long 0, .int 0, .int 0, .ref b16, .int (-1), .ref b17]))] H1 := hPn
  replace hD : va_D A [(b0, .inr (9, [.int 0, .int 0, .ref b1, .ref b2, .int 0, .int 0, .ref b3, .ref b4, .ref b5, .ref b6, .int 0, .ref b7, .ref b8, .ref b9, .ref b10, .ref b11, .ref b12, .ref b13, .int 0, .int 0, .ref b14, .ref b15, .long 0, .int 0, .int 0, .ref b16, .int (-1), .ref b17]))] := hDn
  replace hS := hSn
  clear hPn hDn hSn
  refine lv_aload_n hx hb d_Mo_clear_5 rfl (lv_at hl 0 rfl) ?_
  refine lv_iconst (v := 0) hx hb d_Mo_clear_6 (by decide) ?_
  refine va_put (D := (dC, dI)) (ci := 9) (v := .int 0) (ty := .int) (C := "NetUnfolderModel") (T := T_Mo) (N := 28) hx hb ht in_Mo ty_Mo ok_Mo nm_Mo hown hK hP hD hS 0 rfl rfl 1 (by decide) (ht _ wd_4_1) (fun _ h9 => h9) rfl (by decide +kernel) rfl rfl (Nat.le_of_ble_eq_true rfl) d_Mo_clear_7 (fun H2 locs hPn hDn hSn => ?_)
  replace hP : va_P (dC, dI) clA [(b0, .inr (9, [.int 0, .int 0, .ref b1, .ref b2, .int 0, .int 0, .ref b3, .ref b4, .ref b5, .ref b6, .int 0, .ref b7, .ref b8, .ref b9, .ref b10, .ref b11, .ref b12, .ref b13, .int 0, .int 0, .ref b14, .ref b15, .long 0, .int 0, .int 0, .ref b16, .int (-1), .ref b17]))] H2 := hPn
  replace hD : va_D A [(b0, .inr (9, [.int 0, .int 0, .ref b1, .ref b2, .int 0, .int 0, .ref b3, .ref b4, .ref b5, .ref b6, .int 0, .ref b7, .ref b8, .ref b9, .ref b10, .ref b11, .ref b12, .ref b13, .int 0, .int 0, .ref b14, .ref b15, .long 0, .int 0, .int 0, .ref b16, .int (-1), .ref b17]))] := hDn
  replace hS := hSn
  clear hPn hDn hSn
  refine lv_aload_n hx hb d_Mo_clear_10 rfl (lv_at hl 0 rfl) ?_
  refine lv_iconst (v := 0) hx hb d_Mo_clear_11 (by decide) ?_
  refine va_put (D := (dC, dI)) (ci := 9) (v := .int 0) (ty := .int) (C := "NetUnfolderModel") (T := T_Mo) (N := 28) hx hb ht in_Mo ty_Mo ok_Mo nm_Mo hown hK hP hD hS 0 rfl rfl 4 (by decide) (ht _ wd_4_4) (fun _ h9 => h9) rfl (by decide +kernel) rfl rfl (Nat.le_of_ble_eq_true rfl) d_Mo_clear_12 (fun H3 locs hPn hDn hSn => ?_)
  replace hP : va_P (dC, dI) clA [(b0, .inr (9, [.int 0, .int 0, .ref b1, .ref b2, .int 0, .int 0, .ref b3, .ref b4, .ref b5, .ref b6, .int 0, .ref b7, .ref b8, .ref b9, .ref b10, .ref b11, .ref b12, .ref b13, .int 0, .int 0, .ref b14, .ref b15, .long 0, .int 0, .int 0, .ref b16, .int (-1), .ref b17]))] H3 := hPn
  replace hD : va_D A [(b0, .inr (9, [.int 0, .int 0, .ref b1, .ref b2, .int 0, .int 0, .ref b3, .ref b4, .ref b5, .ref b6, .int 0, .ref b7, .ref b8, .ref b9, .ref b10, .ref b11, .ref b12, .ref b13, .int 0, .int 0, .ref b14, .ref b15, .long 0, .int 0, .int 0, .ref b16, .int (-1), .ref b17]))] := hDn
  replace hS := hSn
  clear hPn hDn hSn
  refine lv_aload_n hx hb d_Mo_clear_15 rfl (lv_at hl 0 rfl) ?_
  have hPc := hP.sub (ws' := [(b0, .inr (9, [.int 0, .int 0, .ref b1, .ref b2, .int 0, .int 0, .ref b3, .ref b4, .ref b5, .ref b6, .int 0, .ref b7, .ref b8, .ref b9, .ref b10, .ref b11, .ref b12, .ref b13, .int 0, .int 0, .ref b14, .ref b15, .long 0, .int 0, .int 0, .ref b16, .int (-1), .ref b17]))]) [0] rfl
  have hDc := hD.sub (ws' := [(b0, .inr (9, [.int 0, .int 0, .ref b1, .ref b2, .int 0, .int 0, .ref b3, .ref b4, .ref b5, .ref b6, .int 0, .ref b7, .ref b8, .ref b9, .ref b10, .ref b11, .ref b12, .ref b13, .int 0, .int 0, .ref b14, .ref b15, .long 0, .int 0, .int 0, .ref b16, .int (-1), .ref b17]))]) [0] (by decide) rfl
  have hFc := va_free (wc := [(b0, .inr (9, [.int 0, .int 0, .ref b1, .ref b2, .int 0, .int 0, .ref b3, .ref b4, .ref b5, .ref b6, .int 0, .ref b7, .ref b8, .ref b9, .ref b10, .ref b11, .ref b12, .ref b13, .int 0, .int 0, .ref b14, .ref b15, .long 0, .int 0, .int 0, .ref b16, .int (-1), .ref b17]))]) hD hS hA [0] rfl
  refine va_callv (va_runV (C := "NetUnfolderModel") (As := []) (rest := []) ⟨hx, hb, hml, hown, ht⟩ (c_Mo_forget l dC dI cI cL cZ _ b0 0 0 b1 b2 0 0 b3 b4 b5 b6 0 b7 b8 b9 b10 b11 b12 b13 0 0 b14 b15 0 0 0 b16 (-1) b17 ) (cwV 0 ht (good_V wd_4_97 wd_4_99 ws_Mo_forget wd_1_10 wd_4_100) rfl rfl rfl (by decide +kernel) ⟨Nat.le_of_ble_eq_true rfl, Nat.le_of_ble_eq_true rfl⟩) ⟨fun a U g mk q => by obtain ⟨q0, q1, qP, qK, qD, qN⟩ := q; exact ⟨q0, q1, qP, va_K.moved (u := U) (U := U.calling g mk a) (Vm.Alike.refl U.vm) qK, qD, NwA.same (u := U) rfl qN⟩, (va_recv (q0 := 0) (ci := 9) hK hP rfl rfl), fun U hU hW => ⟨rfl, by rw [hU], by rw [hU]; exact hPc, va_K.moved hW.alike hK, hDc.weaken (fun _ _ _ _ => trivial), NwA.warm hW hN⟩⟩ rfl rfl hl.1 rfl (lv_room (Nat.le_of_ble_eq_true rfl)) d_Mo_clear_16 ⟨Nat.le_of_ble_eq_true rfl, Nat.le_of_ble_eq_true rfl⟩) hS (fun q _ h => hFc q h) hFc (fun u t H4 locs ht9 hvm hw5 hB hz1 hk1 hSn => ?_)
  obtain ⟨hP1, hD1⟩ := hB
  rw [ht9] at hP1
  obtain ⟨hPn, hDn⟩ := va_join (wr := []) (w1 := [(b0, .inr (9, [.int 0, .int 0, .ref b1, .ref b2, .int 0, .int 0, .ref b3, .ref b4, .ref b5, .ref b6, .int 0, .ref b7, .ref b8, .ref b9, .ref b10, .ref b11, .ref b12, .ref b13, .int 0, .int 0, .ref b14, .ref b15, .long 0, .int 0, .int 0, .ref b16, .int (-1), .ref b17]))]) hP hD [0] [] rfl rfl (by decide) (by decide) hk1 hFc hP1 hD1
  replace hP : va_P (dC, dI) clA [(b0, .inr (9, [.int 0, .int 0, .ref b1, .ref b2, .int 0, .int 0, .ref b3, .ref b4, .ref b5, .ref b6, .int 0, .ref b7, .ref b8, .ref b9, .ref b10, .ref b11, .ref b12, .ref b13, .int 0, .int 0, .ref b14, .ref b15, .long 0, .int 0, .int 0, .ref b16, .int (-1), .ref b17]))] H4 := hPn
  replace hD : va_D A [(b0, .inr (9, [.int 0, .int 0, .ref b1, .ref b2, .int 0, .int 0, .ref b3, .ref b4, .ref b5, .ref b6, .int 0, .ref b7, .ref b8, .ref b9, .ref b10, .ref b11, .ref b12, .ref b13, .int 0, .int 0, .ref b14, .ref b15, .long 0, .int 0, .int 0, .ref b16, .int (-1), .ref b17]))] := hDn
  replace hS := hSn
  clear hPn hDn hSn
  clear hPc hDc hFc hP1 hD1 hk1 hz1 ht9 hvm
  refine W.cs (cells' := 0) (slots' := 0) rfl rfl ?_
  have hP9 := hP.sub (ws' := [(b0, .inr (9, [.int 0, .int 0, .ref b1, .ref b2, .int 0, .int 0, .ref b3, .ref b4, .ref b5, .ref b6, .int 0, .ref b7, .ref b8, .ref b9, .ref b10, .ref b11, .ref b12, .ref b13, .int 0, .int 0, .ref b14, .ref b15, .long 0, .int 0, .int 0, .ref b16, .int (-1), .ref b17]))]) [0] rfl
  have hD9 := hD.sub (ws' := [(b0, .inr (9, [.int 0, .int 0, .ref b1, .ref b2, .int 0, .int 0, .ref b3, .ref b4, .ref b5, .ref b6, .int 0, .ref b7, .ref b8, .ref b9, .ref b10, .ref b11, .ref b12, .ref b13, .int 0, .int 0, .ref b14, .ref b15, .long 0, .int 0, .int 0, .ref b16, .int (-1), .ref b17]))]) [0] (by decide) rfl
  exact W.vret hx hb hr (fun t ht9 hW => ⟨⟨(), rfl, trivial, by rw [ht9]; exact hP9, hD9⟩, hS.F ht9⟩) hS.2.2 d_Mo_clear_19

set_option maxHeartbeats 4000000 in
set_option maxRecDepth 100000 in
theorem c_Mo_search (l : Launch) (dC : Nat → ClassId) (dI : Nat → Nat → Nat) (cI cL cZ : ClassId) (sz : Nat) (b0 : Nat) (b1 : Nat) (b2 : Nat) (b3 : Nat) (b4 : Nat) (b5 : Nat) (b6 : Nat) (b7 : Nat) (b8 : Nat) (b9 : Nat) (b10 : Nat) (b11 : Nat) (b12 : Nat) (b13 : Nat) (b14 : Nat) (b15 : Nat) (b16 : Nat) (b17 : Nat) : Met l y_Mo_search (Cond.code y_Mo_search prog_11_method_24_code 2 none :: wsA) { frames := 0, cells := 0, slots := 0, locals := 0 } (va_Pc [.ref b0] (fun U => U.heap.size = sz ∧ va_P (dC, dI) clA [(b0, .inr (9, [.int 0, .int 0, .ref b1, .ref b2, .int 0, .int 0, .ref b3, .ref b4, .ref b5, .ref b6, .int 0, .ref b7, .ref b8, .ref b9, .ref b10, .ref b11, .ref b12, .ref b13, .int 0, .int 0, .ref b14, .ref b15, .long 0, .int 0, .int 0, .ref b16, .int (-1), .ref b17]))] U.heap ∧ va_K (dC, dI) clA [(cI, .int), (cL, .long), (cZ, .boolean)] U ∧ va_D (fun _ => True) [(b0, .inr (9, [.int 0, .int 0, .ref b1, .ref b2, .int 0, .int 0, .ref b3, .ref b4, .ref b5, .ref b6, .int 0, .ref b7, .ref b8, .ref b9, .ref b10, .ref b11, .ref b12, .ref b13, .int 0, .int 0, .ref b14, .ref b15, .long 0, .int 0, .int 0, .ref b16, .int (-1), .ref b17]))] ∧ NwA U)) (va_Qv (fun _ : Unit => True) (fun _ t => va_P (dC, dI) clA [(b0, .inr (9, [.int 0, .int 0, .ref b1, .ref b2, .int 0, .int 0, .ref b3, .ref b4, .ref b5, .ref b6, .int 0, .ref b7, .ref b8, .ref b9, .ref b10, .ref b11, .ref b12, .ref b13, .int 0, .int 0, .ref b14, .ref b15, .long 0, .int 0, .int 0, .ref b16, .int (-1), .ref b17]))] t.heap ∧ va_D (va_A [(b0, .inr (9, [.int 0, .int 0, .ref b1, .ref b2, .int 0, .int 0, .ref b3, .ref b4, .ref b5, .ref b6, .int 0, .ref b7, .ref b8, .ref b9, .ref b10, .ref b11, .ref b12, .ref b13, .int 0, .int 0, .ref b14, .ref b15, .long 0, .int 0, .int 0, .ref b16, .int (-1), .ref b17]))] sz) [(b0, .inr (9, [.int 0, .int 0, .ref b1, .ref b2, .int 0, .int 0, .ref b3, .ref b4, .ref b5, .ref b6, .int 0, .ref b7, .ref b8, .ref b9, .ref b10, .ref b11, .ref b12, .ref b13, .int 0, .int 0, .ref b14, .ref b15, .long 0, .int 0, .int 0, .ref b16, .int (-1), .ref b17]))]) (va_A [(b0, .inr (9, [.int 0, .int 0, .ref b1, .ref b2, .int 0, .int 0, .ref b3, .ref b4, .ref b5, .ref b6, .int 0, .ref b7, .ref b8, .ref b9, .ref b10, .ref b11, .ref b12, .ref b13, .int 0, .int 0, .ref b14, .ref b15, .long 0, .int 0, .int 0, .ref b16, .int (-1), .ref b17]))] sz)) 0 0 (va_A [(b0, .inr (9, [.int 0, .int 0, .ref b1, .ref b2, .int 0, .int 0, .ref b3, .ref b4, .ref b5, .ref b6, .int 0, .ref b7, .ref b8, .ref b9, .ref b10, .ref b11, .ref b12, .ref b13, .int 0, .int 0, .ref b14, .ref b15, .long 0, .int 0, .int 0, .ref b16, .int (-1), .ref b17]))] sz) := by
  refine Met.ofW (cc := prog_11_method_24_code) (maxL := 2) (ret := none) (by decide) rfl ?_
  intro p e s m args below meth c s₁ B hml hv
  obtain ⟨rfl, hsz, hP, hK, hD0, hN⟩ := hv
  have hx := B.exec
  have hb := B.bytes
  have hr := B.returns
  have ht : ∀ w ∈ wsA, w.before _ s = true := fun w h => atoms_spec (ws := (Cond.code y_Mo_search prog_11_method_24_code 2 none :: wsA)) B.pre w (List.mem_cons_of_mem _ h)
  have hown : s.vm.findClass "NetUnfolderModel" = some m.cls := findClass_of_methodNamed B.named
  have hlocks := B.notSynchronized
  subst hsz
  have hD := hD0.self (sz := s.heap.size)
  generalize hAe : va_A [(b0, .inr (9, [.int 0, .int 0, .ref b1, .ref b2, .int 0, .int 0, .ref b3, .ref b4, .ref b5, .ref b6, .int 0, .ref b7, .ref b8, .ref b9, .ref b10, .ref b11, .ref b12, .ref b13, .int 0, .int 0, .ref b14, .ref b15, .long 0, .int 0, .int 0, .ref b16, .int (-1), .ref b17]))] s.heap.size = A at hD ⊢
  have hA : ∀ q : Nat, s.heap.size ≤ q → A q := fun q h => by rw [← hAe]; exact Or.inr h
  have hS : va_S A s.heap s.heap [] := va_S.rf
  have hl := lv_entry ([.ref b0]) (n := 2) (Nat.le_of_ble_eq_true rfl)
  rw [lg_entry_eq]
  generalize (lg_sl ([.ref b0]) ++ List.replicate (2 - (lg_sl ([.ref b0])).length) Slot.unset).toArray = ls at hl ⊢
  replace hl : lv_has ls 2 [(0, .ref b0)] := hl
  refine lv_aload_n hx hb d_Mo_search_0 rfl (lv_at hl 0 rfl) ?_
  refine lv_iconst (v := 0) hx hb d_Mo_search_1 (by decide) ?_
  refine va_put (D := (dC, dI)) (ci := 9) (v := .int 0) (ty := .int) (C := "NetUnfolderModel") (T := T_Mo) (N := 28) hx hb ht in_Mo ty_Mo ok_Mo nm_Mo hown hK hP hD hS 0 rfl rfl 19 (by decide) (ht _ wd_4_19) (fun _ h9 => h9) rfl (by decide +kernel) rfl rfl (Nat.le_of_ble_eq_true rfl) d_Mo_search_2 (fun H1 locs hPn hDn hSn => ?_)
  replace hP : va_P (dC, dI) clA [(b0, .inr (9, [.int 0, .int 0, .ref b1, .ref b2, .int 0, .int 0, .ref b3, .ref b4, .ref b5, .ref b6, .int 0, .ref b7, .ref b8, .ref b9, .ref b10, .ref b11, .ref b12, .ref b13, .int 0, .int 0, .ref b14, .ref b15, .long 0, .int 0, .int 0, .ref b16, .int (-1), .ref b17]))] H1 := hPn
  replace hD : va_D A [(b0, .inr (9, [.int 0, .int 0, .ref b1, .ref b2, .int 0, .int 0, .ref b3, .ref b4, .ref b5, .ref b6, .int 0, .ref b7, .ref b8, .ref b9, .ref b10, .ref b11, .ref b12, .ref b13, .int 0, .int 0, .ref b14, .ref b15, .long 0, .int 0, .int 0, .ref b16, .int (-1), .ref b17]))] := hDn
  replace hS := hSn
  clear hPn hDn hSn
  refine lv_iconst (v := 0) hx hb d_Mo_search_5 (by decide) ?_
  refine lv_istore_n (lv' := [(1, .int 0), (0, .ref b0)]) hx hb d_Mo_search_6 rfl hl (by decide) rfl (fun ls hln => ?_)
  replace hl : lv_has ls 2 [(1, .int 0), (0, .ref b0)] := hln
  clear hln
  refine lv_iload_n hx hb d_Mo_search_7 rfl (lv_at hl 0 rfl) ?_
  refine lv_aload_n hx hb d_Mo_search_8 rfl (lv_at hl 1 rfl) ?_
  refine va_get (D := (dC, dI)) (ci := 9) (v := .int 0) (C := "NetUnfolderModel") (T := T_Mo) (N := 28) hx hb ht in_Mo hown hK hP 0 rfl rfl 1 (by decide) (ht _ wd_4_1) (fun _ h9 => h9) rfl d_Mo_search_9 ?_
  refine lv_icmp_ge (tgt := 26) hx hb d_Mo_search_12 (by decide) (fun _ => ?_) (fun h => (h (by decide)).elim)
  refine lv_iconst (v := 0) hx hb d_Mo_search_26 (by decide) ?_
  refine lv_istore_n (lv' := [(1, .int 0), (0, .ref b0)]) hx hb d_Mo_search_27 rfl hl (by decide) rfl (fun ls hln => ?_)
  replace hl : lv_has ls 2 [(1, .int 0), (0, .ref b0)] := hln
  clear hln
  refine lv_iload_n hx hb d_Mo_search_28 rfl (lv_at hl 0 rfl) ?_
  refine lv_aload_n hx hb d_Mo_search_29 rfl (lv_at hl 1 rfl) ?_
  refine va_get (D := (dC, dI)) (ci := 9) (v := .int 0) (C := "NetUnfolderModel") (T := T_Mo) (N := 28) hx hb ht in_Mo hown hK hP 0 rfl rfl 24 (by decide) (ht _ wd_4_24) (fun _ h9 => h9) rfl d_Mo_search_30 ?_
  refine lv_icmp_ge (tgt := 61) hx hb d_Mo_search_33 (by decide) (fun _ => ?_) (fun h => (h (by decide)).elim)
  have hP9 := hP.sub (ws' := [(b0, .inr (9, [.int 0, .int 0, .ref b1, .ref b2, .int 0, .int 0, .ref b3, .ref b4, .ref b5, .ref b6, .int 0, .ref b7, .ref b8, .ref b9, .ref b10, .ref b11, .ref b12, .ref b13, .int 0, .int 0, .ref b14, .ref b15, .long 0, .int 0, .int 0, .ref b16, .int (-1), .ref b17]))]) [0] rfl
  have hD9 := hD.sub (ws' := [(b0, .inr (9, [.int 0, .int 0, .ref b1, .ref b2, .int 0, .int 0, .ref b3, .ref b4, .ref b5, .ref b6, .int 0, .ref b7, .ref b8, .ref b9, .ref b10, .ref b11, .ref b12, .ref b13, .int 0, .int 0, .ref b14, .ref b15, .long 0, .int 0, .int 0, .ref b16, .int (-1), .ref b17]))]) [0] (by decide) rfl
  exact W.vret hx hb hr (fun t ht9 hW => ⟨⟨(), rfl, trivial, by rw [ht9]; exact hP9, hD9⟩, hS.F ht9⟩) hS.2.2 d_Mo_search_61

set_option maxHeartbeats 4000000 in
set_option maxRecDepth 100000 in
theorem c_Mo_unfold (l : Launch) (dC : Nat → ClassId) (dI : Nat → Nat → Nat) (cI cL cZ : ClassId) (sz : Nat) (b0 : Nat) (b1 : Nat) (b2 : Nat) (b3 : Nat) (b4 : Nat) (b5 : Nat) (b6 : Nat) (b7 : Nat) (b8 : Nat) (b9 : Nat) (b10 : Nat) (b11 : Nat) (b12 : Nat) (b13 : Nat) (b14 : Nat) (b15 : Nat) (b16 : Nat) (b17 : Nat) : Met l y_Mo_unfold (Cond.code y_Mo_unfold prog_11_method_29_code 3 (some .int) :: wsA) { frames := 1, cells := 0, slots := 0, locals := 21 } (va_Pc [.ref b0] (fun U => U.heap.size = sz ∧ va_P (dC, dI) clA [(b0, .inr (9, [.int 0, .int 0, .ref b1, .ref b2, .int 0, .int 0, .ref b3, .ref b4, .ref b5, .ref b6, .int 0, .ref b7, .ref b8, .ref b9, .ref b10, .ref b11, .ref b12, .ref b13, .int 0, .int 0, .ref b14, .ref b15, .long 0, .int 0, .int 0, .ref b16, .int (-1), .ref b17]))] U.heap ∧ va_K (dC, dI) clA [(cI, .int), (cL, .long), (cZ, .boolean)] U ∧ va_D (fun _ => True) [(b0, .inr (9, [.int 0, .int 0, .ref b1, .ref b2, .int 0, .int 0, .ref b3, .ref b4, .ref b5, .ref b6, .int 0, .ref b7, .ref b8, .ref b9, .ref b10, .ref b11, .ref b12, .ref b13, .int 0, .int 0, .ref b14, .ref b15, .long 0, .int 0, .int 0, .ref b16, .int (-1), .ref b17]))] ∧ NwA U)) (va_Qi (fun r (_ : Unit) => r = 0) (fun _ t => va_P (dC, dI) clA [(b0, .inr (9, [.int 0, .int 0, .ref b1, .ref b2, .int 0, .int 0, .ref b3, .ref b4, .ref b5, .ref b6, .int 0, .ref b7, .ref b8, .ref b9, .ref b10, .ref b11, .ref b12, .ref b13, .int 1, .int 0, .ref b14, .ref b15, .long 0, .int 0, .int 0, .ref b16, .int (-1), .ref b17]))] t.heap ∧ va_D (va_A [(b0, .inr (9, [.int 0, .int 0, .ref b1, .ref b2, .int 0, .int 0, .ref b3, .ref b4, .ref b5, .ref b6, .int 0, .ref b7, .ref b8, .ref b9, .ref b10, .ref b11, .ref b12, .ref b13, .int 0, .int 0, .ref b14, .ref b15, .long 0, .int 0, .int 0, .ref b16, .int (-1), .ref b17]))] sz) [(b0, .inr (9, [.int 0, .int 0, .ref b1, .ref b2, .int 0, .int 0, .ref b3, .ref b4, .ref b5, .ref b6, .int 0, .ref b7, .ref b8, .ref b9, .ref b10, .ref b11, .ref b12, .ref b13, .int 1, .int 0, .ref b14, .ref b15, .long 0, .int 0, .int 0, .ref b16, .int (-1), .ref b17]))]) (va_A [(b0, .inr (9, [.int 0, .int 0, .ref b1, .ref b2, .int 0, .int 0, .ref b3, .ref b4, .ref b5, .ref b6, .int 0, .ref b7, .ref b8, .ref b9, .ref b10, .ref b11, .ref b12, .ref b13, .int 0, .int 0, .ref b14, .ref b15, .long 0, .int 0, .int 0, .ref b16, .int (-1), .ref b17]))] sz)) 0 0 (va_A [(b0, .inr (9, [.int 0, .int 0, .ref b1, .ref b2, .int 0, .int 0, .ref b3, .ref b4, .ref b5, .ref b6, .int 0, .ref b7, .ref b8, .ref b9, .ref b10, .ref b11, .ref b12, .ref b13, .int 0, .int 0, .ref b14, .ref b15, .long 0, .int 0, .int 0, .ref b16, .int (-1), .ref b17]))] sz) := by
  refine Met.ofW (cc := prog_11_method_29_code) (maxL := 3) (ret := (some .int)) (by decide) rfl ?_
  intro p e s m args below meth c s₁ B hml hv
  obtain ⟨rfl, hsz, hP, hK, hD0, hN⟩ := hv
  have hx := B.exec
  have hb := B.bytes
  have hr := B.returns
  have ht : ∀ w ∈ wsA, w.before _ s = true := fun w h => atoms_spec (ws := (Cond.code y_Mo_unfold prog_11_method_29_code 3 (some .int) :: wsA)) B.pre w (List.mem_cons_of_mem _ h)
  have hown : s.vm.findClass "NetUnfolderModel" = some m.cls := findClass_of_methodNamed B.named
  have hlocks := B.notSynchronized
  subst hsz
  have hD := hD0.self (sz := s.heap.size)
  generalize hAe : va_A [(b0, .inr (9, [.int 0, .int 0, .ref b1, .ref b2, .int 0, .int 0, .ref b3, .ref b4, .ref b5, .ref b6, .int 0, .ref b7, .ref b8, .ref b9, .ref b10, .ref b11, .ref b12, .ref b13, .int 0, .int 0, .ref b14, .ref b15, .long 0, .int 0, .int 0, .ref b16, .int (-1), .ref b17]))] s.heap.size = A at hD ⊢
  have hA : ∀ q : Nat, s.heap.size ≤ q → A q := fun q h => by rw [← hAe]; exact Or.inr h
  have hS : va_S A s.heap s.heap [] := va_S.rf
  have hl := lv_entry ([.ref b0]) (n := 3) (Nat.le_of_ble_eq_true rfl)
  rw [lg_entry_eq]
  generalize (lg_sl ([.ref b0]) ++ List.replicate (3 - (lg_sl ([.ref b0])).length) Slot.unset).toArray = ls at hl ⊢
  replace hl : lv_has ls 3 [(0, .ref b0)] := hl
  refine lv_aload_n hx hb d_Mo_unfold_0 rfl (lv_at hl 0 rfl) ?_
  refine lv_iconst (v := 0) hx hb d_Mo_unfold_1 (by decide) ?_
  refine va_put (D := (dC, dI)) (ci := 9) (v := .int 0) (ty := .int) (C := "NetUnfolderModel") (T := T_Mo) (N := 28) hx hb ht in_Mo ty_Mo ok_Mo nm_Mo hown hK hP hD hS 0 rfl rfl 0 (by decide) (ht _ wd_4_0) (fun _ h9 => h9) rfl (by decide +kernel) rfl rfl (Nat.le_of_ble_eq_true rfl) d_Mo_unfold_2 (fun H1 locs hPn hDn hSn => ?_)
  replace hP : va_P (dC, dI) clA [(b0, .inr (9, [.int 0, .int 0, .ref b1, .ref b2, .int 0, .int 0, .ref b3, .ref b4, .ref b5, .ref b6, .int 0, .ref b7, .ref b8, .ref b9, .ref b10, .ref b11, .ref b12, .ref b13, .int 0, .int 0, .ref b14, .ref b15, .long 0, .int 0, .int 0, .ref b16, .int (-1), .ref b17]))] H1 := hPn
  replace hD : va_D A [(b0, .inr (9, [.int 0, .int 0, .ref b1, .ref b2, .int 0, .int 0, .ref b3, .ref b4, .ref b5, .ref b6, .int 0, .ref b7, .ref b8, .ref b9, .ref b10, .ref b11, .ref b12, .ref b13, .int 0, .int 0, .ref b14, .ref b15, .long 0, .int 0, .int 0, .ref b16, .int (-1), .ref b17]))] := hDn
  replace hS := hSn
  clear hPn hDn hSn
  refine lv_aload_n hx hb d_Mo_unfold_5 rfl (lv_at hl 0 rfl) ?_
  have hPc := hP.sub (ws' := [(b0, .inr (9, [.int 0, .int 0, .ref b1, .ref b2, .int 0, .int 0, .ref b3, .ref b4, .ref b5, .ref b6, .int 0, .ref b7, .ref b8, .ref b9, .ref b10, .ref b11, .ref b12, .ref b13, .int 0, .int 0, .ref b14, .ref b15, .long 0, .int 0, .int 0, .ref b16, .int (-1), .ref b17]))]) [0] rfl
  have hDc := hD.sub (ws' := [(b0, .inr (9, [.int 0, .int 0, .ref b1, .ref b2, .int 0, .int 0, .ref b3, .ref b4, .ref b5, .ref b6, .int 0, .ref b7, .ref b8, .ref b9, .ref b10, .ref b11, .ref b12, .ref b13, .int 0, .int 0, .ref b14, .ref b15, .long 0, .int 0, .int 0, .ref b16, .int (-1), .ref b17]))]) [0] (by decide) rfl
  have hFc := va_free (wc := [(b0, .inr (9, [.int 0, .int 0, .ref b1, .ref b2, .int 0, .int 0, .ref b3, .ref b4, .ref b5, .ref b6, .int 0, .ref b7, .ref b8, .ref b9, .ref b10, .ref b11, .ref b12, .ref b13, .int 0, .int 0, .ref b14, .ref b15, .long 0, .int 0, .int 0, .ref b16, .int (-1), .ref b17]))]) hD hS hA [0] rfl
  refine va_callv (va_runV (C := "NetUnfolderModel") (As := []) (rest := []) ⟨hx, hb, hml, hown, ht⟩ (c_Mo_forget l dC dI cI cL cZ _ b0 0 0 b1 b2 0 0 b3 b4 b5 b6 0 b7 b8 b9 b10 b11 b12 b13 0 0 b14 b15 0 0 0 b16 (-1) b17 ) (cwV 0 ht (good_V wd_4_97 wd_4_99 ws_Mo_forget wd_1_10 wd_4_100) rfl rfl rfl (by decide +kernel) ⟨Nat.le_of_ble_eq_true rfl, Nat.le_of_ble_eq_true rfl⟩) ⟨fun a U g mk q => by obtain ⟨q0, q1, qP, qK, qD, qN⟩ := q; exact ⟨q0, q1, qP, va_K.moved (u := U) (U := U.calling g mk a) (Vm.Alike.refl U.vm) qK, qD, NwA.same (u := U) rfl qN⟩, (va_recv (q0 := 0) (ci := 9) hK hP rfl rfl), fun U hU hW => ⟨rfl, by rw [hU], by rw [hU]; exact hPc, va_K.moved hW.alike hK, hDc.weaken (fun _ _ _ _ => trivial), NwA.warm hW hN⟩⟩ rfl rfl hl.1 rfl (lv_room (Nat.le_of_ble_eq_true rfl)) d_Mo_unfold_6 ⟨Nat.le_of_ble_eq_true rfl, Nat.le_of_ble_eq_true rfl⟩) hS (fun q _ h => hFc q h) hFc (fun u t H2 locs ht9 hvm hw3 hB hz1 hk1 hSn => ?_)
  obtain ⟨hP1, hD1⟩ := hB
  rw [ht9] at hP1
  obtain ⟨hPn, hDn⟩ := va_join (wr := []) (w1 := [(b0, .inr (9, [.int 0, .int 0, .ref b1, .ref b2, .int 0, .int 0, .ref b3, .ref b4, .ref b5, .ref b6, .int 0, .ref b7, .ref b8, .ref b9, .ref b10, .ref b11, .ref b12, .ref b13, .int 0, .int 0, .ref b14, .ref b15, .long 0, .int 0, .int 0, .ref b16, .int (-1), .ref b17]))]) hP hD [0] [] rfl rfl (by decide) (by decide) hk1 hFc hP1 hD1
  replace hP : va_P (dC, dI) clA [(b0, .inr (9, [.int 0, .int 0, .ref b1, .ref b2, .int 0, .int 0, .ref b3, .ref b4, .ref b5, .ref b6, .int 0, .ref b7, .ref b8, .ref b9, .ref b10, .ref b11, .ref b12, .ref b13, .int 0, .int 0, .ref b14, .ref b15, .long 0, .int 0, .int 0, .ref b16, .int (-1), .ref b17]))] H2 := hPn
  replace hD : va_D A [(b0, .inr (9, [.int 0, .int 0, .ref b1, .ref b2, .int 0, .int 0, .ref b3, .ref b4, .ref b5, .ref b6, .int 0, .ref b7, .ref b8, .ref b9, .ref b10, .ref b11, .ref b12, .ref b13, .int 0, .int 0, .ref b14, .ref b15, .long 0, .int 0, .int 0, .ref b16, .int (-1), .ref b17]))] := hDn
  replace hS := hSn
  clear hPn hDn hSn
  clear hPc hDc hFc hP1 hD1 hk1 hz1 ht9 hvm
  refine W.cs (cells' := 0) (slots' := 0) rfl rfl ?_
  refine lv_iconst (v := 0) hx hb d_Mo_unfold_9 (by decide) ?_
  refine lv_istore_n (lv' := [(1, .int 0), (0, .ref b0)]) hx hb d_Mo_unfold_10 rfl hl (by decide) rfl (fun ls hln => ?_)
  replace hl : lv_has ls 3 [(1, .int 0), (0, .ref b0)] := hln
  clear hln
  refine lv_iload_n hx hb d_Mo_unfold_11 rfl (lv_at hl 0 rfl) ?_
  refine lv_bipush (v := 8) hx hb d_Mo_unfold_12 (by decide) ?_
  refine lv_icmp_ge (tgt := 42) hx hb d_Mo_unfold_14 (by decide) (fun h => absurd h (by decide)) (fun _ => ?_)
  refine lv_aload_n hx hb d_Mo_unfold_17 rfl (lv_at hl 1 rfl) ?_
  refine va_get (D := (dC, dI)) (ci := 9) (v := .int 0) (C := "NetUnfolderModel") (T := T_Mo) (N := 28) hx hb ht in_Mo hown hK hP 0 rfl rfl 4 (by decide) (ht _ wd_4_4) (fun _ h9 => h9) rfl d_Mo_unfold_18 ?_
  refine lv_iload_n hx hb d_Mo_unfold_21 rfl (lv_at hl 0 rfl) ?_
  refine lv_ishr hx hb d_Mo_unfold_22 ?_
  refine ci_i (y := 0) (by decide) ?_
  refine lv_iconst (v := 1) hx hb d_Mo_unfold_23 (by decide) ?_
  refine lv_iand hx hb d_Mo_unfold_24 ?_
  refine ci_i (y := 0) (by decide) ?_
  refine lv_iconst (v := 1) hx hb d_Mo_unfold_25 (by decide) ?_
  refine lv_icmp_ne (tgt := 36) hx hb d_Mo_unfold_26 (by decide) (fun _ => ?_) (fun h => absurd h (by decide))
  refine lv_iinc (k := 0) (v := 1) (lv' := [(1, .int 1), (0, .ref b0)]) hx hb d_Mo_unfold_36 hl rfl (by decide) (by decide) rfl (fun ls hln => ?_)
  replace hl : lv_has ls 3 [(1, .int 1), (0, .ref b0)] := hln
  clear hln
  refine lv_goto (tgt := 11) hx hb d_Mo_unfold_39 (by decide) ?_
  refine lv_iload_n hx hb d_Mo_unfold_11 rfl (lv_at hl 0 rfl) ?_
  refine lv_bipush (v := 8) hx hb d_Mo_unfold_12 (by decide) ?_
  refine lv_icmp_ge (tgt := 42) hx hb d_Mo_unfold_14 (by decide) (fun h => absurd h (by decide)) (fun _ => ?_)
  refine lv_aload_n hx hb d_Mo_unfold_17 rfl (lv_at hl 1 rfl) ?_
  refine va_get (D := (dC, dI)) (ci := 9) (v := .int 0) (C := "NetUnfolderModel") (T := T_Mo) (N := 28) hx hb ht in_Mo hown hK hP 0 rfl rfl 4 (by decide) (ht _ wd_4_4) (fun _ h9 => h9) rfl d_Mo_unfold_18 ?_
  refine lv_iload_n hx hb d_Mo_unfold_21 rfl (lv_at hl 0 rfl) ?_
  refine lv_ishr hx hb d_Mo_unfold_22 ?_
  refine ci_i (y := 0) (by decide) ?_
  refine lv_iconst (v := 1) hx hb d_Mo_unfold_23 (by decide) ?_
  refine lv_iand hx hb d_Mo_unfold_24 ?_
  refine ci_i (y := 0) (by decide) ?_
  refine lv_iconst (v := 1) hx hb d_Mo_unfold_25 (by decide) ?_
  refine lv_icmp_ne (tgt := 36) hx hb d_Mo_unfold_26 (by decide) (fun _ => ?_) (fun h => absurd h (by decide))
  refine lv_iinc (k := 0) (v := 2) (lv' := [(1, .int 2), (0, .ref b0)]) hx hb d_Mo_unfold_36 hl rfl (by decide) (by decide) rfl (fun ls hln => ?_)
  replace hl : lv_has ls 3 [(1, .int 2), (0, .ref b0)] := hln
  clear hln
  refine lv_goto (tgt := 11) hx hb d_Mo_unfold_39 (by decide) ?_
  refine lv_iload_n hx hb d_Mo_unfold_11 rfl (lv_at hl 0 rfl) ?_
  refine lv_bipush (v := 8) hx hb d_Mo_unfold_12 (by decide) ?_
  refine lv_icmp_ge (tgt := 42) hx hb d_Mo_unfold_14 (by decide) (fun h => absurd h (by decide)) (fun _ => ?_)
  refine lv_aload_n hx hb d_Mo_unfold_17 rfl (lv_at hl 1 rfl) ?_
  refine va_get (D := (dC, dI)) (ci := 9) (v := .int 0) (C := "NetUnfolderModel") (T := T_Mo) (N := 28) hx hb ht in_Mo hown hK hP 0 rfl rfl 4 (by decide) (ht _ wd_4_4) (fun _ h9 => h9) rfl d_Mo_unfold_18 ?_
  refine lv_iload_n hx hb d_Mo_unfold_21 rfl (lv_at hl 0 rfl) ?_
  refine lv_ishr hx hb d_Mo_unfold_22 ?_
  refine ci_i (y := 0) (by decide) ?_
  refine lv_iconst (v := 1) hx hb d_Mo_unfold_23 (by decide) ?_
  refine lv_iand hx hb d_Mo_unfold_24 ?_
  refine ci_i (y := 0) (by decide) ?_
  refine lv_iconst (v := 1) hx hb d_Mo_unfold_25 (by decide) ?_
  refine lv_icmp_ne (tgt := 36) hx hb d_Mo_unfold_26 (by decide) (fun _ => ?_) (fun h => absurd h (by decide))
  refine lv_iinc (k := 0) (v := 3) (lv' := [(1, .int 3), (0, .ref b0)]) hx hb d_Mo_unfold_36 hl rfl (by decide) (by decide) rfl (fun ls hln => ?_)
  replace hl : lv_has ls 3 [(1, .int 3), (0, .ref b0)] := hln
  clear hln
  refine lv_goto (tgt := 11) hx hb d_Mo_unfold_39 (by decide) ?_
  refine lv_iload_n hx hb d_Mo_unfold_11 rfl (lv_at hl 0 rfl) ?_
  refine lv_bipush (v := 8) hx hb d_Mo_unfold_12 (by decide) ?_
  refine lv_icmp_ge (tgt := 42) hx hb d_Mo_unfold_14 (by decide) (fun h => absurd h (by decide)) (fun _ => ?_)
  refine lv_aload_n hx hb d_Mo_unfold_17 rfl (lv_at hl 1 rfl) ?_
  refine va_get (D := (dC, dI)) (ci := 9) (v := .int 0) (C := "NetUnfolderModel") (T := T_Mo) (N := 28) hx hb ht in_Mo hown hK hP 0 rfl rfl 4 (by decide) (ht _ wd_4_4) (fun _ h9 => h9) rfl d_Mo_unfold_18 ?_
  refine lv_iload_n hx hb d_Mo_unfold_21 rfl (lv_at hl 0 rfl) ?_
  refine lv_ishr hx hb d_Mo_unfold_22 ?_
  refine ci_i (y := 0) (by decide) ?_
  refine lv_iconst (v := 1) hx hb d_Mo_unfold_23 (by decide) ?_
  refine lv_iand hx hb d_Mo_unfold_24 ?_
  refine ci_i (y := 0) (by decide) ?_
  refine lv_iconst (v := 1) hx hb d_Mo_unfold_25 (by decide) ?_
  refine lv_icmp_ne (tgt := 36) hx hb d_Mo_unfold_26 (by decide) (fun _ => ?_) (fun h => absurd h (by decide))
  refine lv_iinc (k := 0) (v := 4) (lv' := [(1, .int 4), (0, .ref b0)]) hx hb d_Mo_unfold_36 hl rfl (by decide) (by decide) rfl (fun ls hln => ?_)
  replace hl : lv_has ls 3 [(1, .int 4), (0, .ref b0)] := hln
  clear hln
  refine lv_goto (tgt := 11) hx hb d_Mo_unfold_39 (by decide) ?_
  refine lv_iload_n hx hb d_Mo_unfold_11 rfl (lv_at hl 0 rfl) ?_
  refine lv_bipush (v := 8) hx hb d_Mo_unfold_12 (by decide) ?_
  refine lv_icmp_ge (tgt := 42) hx hb d_Mo_unfold_14 (by decide) (fun h => absurd h (by decide)) (fun _ => ?_)
  refine lv_aload_n hx hb d_Mo_unfold_17 rfl (lv_at hl 1 rfl) ?_
  refine va_get (D := (dC, dI)) (ci := 9) (v := .int 0) (C := "NetUnfolderModel") (T := T_Mo) (N := 28) hx hb ht in_Mo hown hK hP 0 rfl rfl 4 (by decide) (ht _ wd_4_4) (fun _ h9 => h9) rfl d_Mo_unfold_18 ?_
  refine lv_iload_n hx hb d_Mo_unfold_21 rfl (lv_at hl 0 rfl) ?_
  refine lv_ishr hx hb d_Mo_unfold_22 ?_
  refine ci_i (y := 0) (by decide) ?_
  refine lv_iconst (v := 1) hx hb d_Mo_unfold_23 (by decide) ?_
  refine lv_iand hx hb d_Mo_unfold_24 ?_
  refine ci_i (y := 0) (by decide) ?_
  refine lv_iconst (v := 1) hx hb d_Mo_unfold_25 (by decide) ?_
  refine lv_icmp_ne (tgt := 36) hx hb d_Mo_unfold_26 (by decide) (fun _ => ?_) (fun h => absurd h (by decide))
  refine lv_iinc (k := 0) (v := 5) (lv' := [(1, .int 5), (0, .ref b0)]) hx hb d_Mo_unfold_36 hl rfl (by decide) (by decide) rfl (fun ls hln => ?_)
  replace hl : lv_has ls 3 [(1, .int 5), (0, .ref b0)] := hln
  clear hln
  refine lv_goto (tgt := 11) hx hb d_Mo_unfold_39 (by decide) ?_
  refine lv_iload_n hx hb d_Mo_unfold_11 rfl (lv_at hl 0 rfl) ?_
  refine lv_bipush (v := 8) hx hb d_Mo_unfold_12 (by decide) ?_
  refine lv_icmp_ge (tgt := 42) hx hb d_Mo_unfold_14 (by decide) (fun h => absurd h (by decide)) (fun _ => ?_)
  refine lv_aload_n hx hb d_Mo_unfold_17 rfl (lv_at hl 1 rfl) ?_
  refine va_get (D := (dC, dI)) (ci := 9) (v := .int 0) (C := "NetUnfolderModel") (T := T_Mo) (N := 28) hx hb ht in_Mo hown hK hP 0 rfl rfl 4 (by decide) (ht _ wd_4_4) (fun _ h9 => h9) rfl d_Mo_unfold_18 ?_
  refine lv_iload_n hx hb d_Mo_unfold_21 rfl (lv_at hl 0 rfl) ?_
  refine lv_ishr hx hb d_Mo_unfold_22 ?_
  refine ci_i (y := 0) (by decide) ?_
  refine lv_iconst (v := 1) hx hb d_Mo_unfold_23 (by decide) ?_
  refine lv_iand hx hb d_Mo_unfold_24 ?_
  refine ci_i (y := 0) (by decide) ?_
  refine lv_iconst (v := 1) hx hb d_Mo_unfold_25 (by decide) ?_
  refine lv_icmp_ne (tgt := 36) hx hb d_Mo_unfold_26 (by decide) (fun _ => ?_) (fun h => absurd h (by decide))
  refine lv_iinc (k := 0) (v := 6) (lv' := [(1, .int 6), (0, .ref b0)]) hx hb d_Mo_unfold_36 hl rfl (by decide) (by decide) rfl (fun ls hln => ?_)
  replace hl : lv_has ls 3 [(1, .int 6), (0, .ref b0)] := hln
  clear hln
  refine lv_goto (tgt := 11) hx hb d_Mo_unfold_39 (by decide) ?_
  refine lv_iload_n hx hb d_Mo_unfold_11 rfl (lv_at hl 0 rfl) ?_
  refine lv_bipush (v := 8) hx hb d_Mo_unfold_12 (by decide) ?_
  refine lv_icmp_ge (tgt := 42) hx hb d_Mo_unfold_14 (by decide) (fun h => absurd h (by decide)) (fun _ => ?_)
  refine lv_aload_n hx hb d_Mo_unfold_17 rfl (lv_at hl 1 rfl) ?_
  refine va_get (D := (dC, dI)) (ci := 9) (v := .int 0) (C := "NetUnfolderModel") (T := T_Mo) (N := 28) hx hb ht in_Mo hown hK hP 0 rfl rfl 4 (by decide) (ht _ wd_4_4) (fun _ h9 => h9) rfl d_Mo_unfold_18 ?_
  refine lv_iload_n hx hb d_Mo_unfold_21 rfl (lv_at hl 0 rfl) ?_
  refine lv_ishr hx hb d_Mo_unfold_22 ?_
  refine ci_i (y := 0) (by decide) ?_
  refine lv_iconst (v := 1) hx hb d_Mo_unfold_23 (by decide) ?_
  refine lv_iand hx hb d_Mo_unfold_24 ?_
  refine ci_i (y := 0) (by decide) ?_
  refine lv_iconst (v := 1) hx hb d_Mo_unfold_25 (by decide) ?_
  refine lv_icmp_ne (tgt := 36) hx hb d_Mo_unfold_26 (by decide) (fun _ => ?_) (fun h => absurd h (by decide))
  refine lv_iinc (k := 0) (v := 7) (lv' := [(1, .int 7), (0, .ref b0)]) hx hb d_Mo_unfold_36 hl rfl (by decide) (by decide) rfl (fun ls hln => ?_)
  replace hl : lv_has ls 3 [(1, .int 7), (0, .ref b0)] := hln
  clear hln
  refine lv_goto (tgt := 11) hx hb d_Mo_unfold_39 (by decide) ?_
  refine lv_iload_n hx hb d_Mo_unfold_11 rfl (lv_at hl 0 rfl) ?_
  refine lv_bipush (v := 8) hx hb d_Mo_unfold_12 (by decide) ?_
  refine lv_icmp_ge (tgt := 42) hx hb d_Mo_unfold_14 (by decide) (fun h => absurd h (by decide)) (fun _ => ?_)
  refine lv_aload_n hx hb d_Mo_unfold_17 rfl (lv_at hl 1 rfl) ?_
  refine va_get (D := (dC, dI)) (ci := 9) (v := .int 0) (C := "NetUnfolderModel") (T := T_Mo) (N := 28) hx hb ht in_Mo hown hK hP 0 rfl rfl 4 (by decide) (ht _ wd_4_4) (fun _ h9 => h9) rfl d_Mo_unfold_18 ?_
  refine lv_iload_n hx hb d_Mo_unfold_21 rfl (lv_at hl 0 rfl) ?_
  refine lv_ishr hx hb d_Mo_unfold_22 ?_
  refine ci_i (y := 0) (by decide) ?_
  refine lv_iconst (v := 1) hx hb d_Mo_unfold_23 (by decide) ?_
  refine lv_iand hx hb d_Mo_unfold_24 ?_
  refine ci_i (y := 0) (by decide) ?_
  refine lv_iconst (v := 1) hx hb d_Mo_unfold_25 (by decide) ?_
  refine lv_icmp_ne (tgt := 36) hx hb d_Mo_unfold_26 (by decide) (fun _ => ?_) (fun h => absurd h (by decide))
  refine lv_iinc (k := 0) (v := 8) (lv' := [(1, .int 8), (0, .ref b0)]) hx hb d_Mo_unfold_36 hl rfl (by decide) (by decide) rfl (fun ls hln => ?_)
  replace hl : lv_has ls 3 [(1, .int 8), (0, .ref b0)] := hln
  clear hln
  refine lv_goto (tgt := 11) hx hb d_Mo_unfold_39 (by decide) ?_
  refine lv_iload_n hx hb d_Mo_unfold_11 rfl (lv_at hl 0 rfl) ?_
  refine lv_bipush (v := 8) hx hb d_Mo_unfold_12 (by decide) ?_
  refine lv_icmp_ge (tgt := 42) hx hb d_Mo_unfold_14 (by decide) (fun _ => ?_) (fun h => (h (by decide)).elim)
  refine lv_aload_n hx hb d_Mo_unfold_42 rfl (lv_at hl 1 rfl) ?_
  have hPc := hP.sub (ws' := [(b0, .inr (9, [.int 0, .int 0, .ref b1, .ref b2, .int 0, .int 0, .ref b3, .ref b4, .ref b5, .ref b6, .int 0, .ref b7, .ref b8, .ref b9, .ref b10, .ref b11, .ref b12, .ref b13, .int 0, .int 0, .ref b14, .ref b15, .long 0, .int 0, .int 0, .ref b16, .int (-1), .ref b17]))]) [0] rfl
  have hDc := hD.sub (ws' := [(b0, .inr (9, [.int 0, .int 0, .ref b1, .ref b2, .int 0, .int 0, .ref b3, .ref b4, .ref b5, .ref b6, .int 0, .ref b7, .ref b8, .ref b9, .ref b10, .ref b11, .ref b12, .ref b13, .int 0, .int 0, .ref b14, .ref b15, .long 0, .int 0, .int 0, .ref b16, .int (-1), .ref b17]))]) [0] (by decide) rfl
  have hFc := va_free (wc := [(b0, .inr (9, [.int 0, .int 0, .ref b1, .ref b2, .int 0, .int 0, .ref b3, .ref b4, .ref b5, .ref b6, .int 0, .ref b7, .ref b8, .ref b9, .ref b10, .ref b11, .ref b12, .ref b13, .int 0, .int 0, .ref b14, .ref b15, .long 0, .int 0, .int 0, .ref b16, .int (-1), .ref b17]))]) hD hS hA [0] rfl
  refine va_callv (va_runV (C := "NetUnfolderModel") (As := []) (rest := []) ⟨hx, hb, hml, hown, ht⟩ (c_Mo_search l dC dI cI cL cZ _ b0 b1 b2 b3 b4 b5 b6 b7 b8 b9 b10 b11 b12 b13 b14 b15 b16 b17 ) (cwV 0 ht (good_V wd_4_129 wd_4_131 ws_Mo_search wd_1_10 wd_4_132) rfl rfl rfl (by decide +kernel) ⟨Nat.le_of_ble_eq_true rfl, Nat.le_of_ble_eq_true rfl⟩) ⟨fun a U g mk q => by obtain ⟨q0, q1, qP, qK, qD, qN⟩ := q; exact ⟨q0, q1, qP, va_K.moved (u := U) (U := U.calling g mk a) (Vm.Alike.refl U.vm) qK, qD, NwA.same (u := U) rfl qN⟩, (va_recv (q0 := 0) (ci := 9) hK hP rfl rfl), fun U hU hW => ⟨rfl, by rw [hU], by rw [hU]; exact hPc, va_K.moved hW.alike hK, hDc.weaken (fun _ _ _ _ => trivial), NwA.warm hW hN⟩⟩ rfl rfl hl.1 rfl (lv_room (Nat.le_of_ble_eq_true rfl)) d_Mo_unfold_43 ⟨Nat.le_of_ble_eq_true rfl, Nat.le_of_ble_eq_true rfl⟩) hS (fun q _ h => hFc q h) hFc (fun u t H4 locs ht9 hvm hw5 hB hz1 hk1 hSn => ?_)
  obtain ⟨hP1, hD1⟩ := hB
  rw [ht9] at hP1
  obtain ⟨hPn, hDn⟩ := va_join (wr := []) (w1 := [(b0, .inr (9, [.int 0, .int 0, .ref b1, .ref b2, .int 0, .int 0, .ref b3, .ref b4, .ref b5, .ref b6, .int 0, .ref b7, .ref b8, .ref b9, .ref b10, .ref b11, .ref b12, .ref b13, .int 0, .int 0, .ref b14, .ref b15, .long 0, .int 0, .int 0, .ref b16, .int (-1), .ref b17]))]) hP hD [0] [] rfl rfl (by decide) (by decide) hk1 hFc hP1 hD1
  replace hP : va_P (dC, dI) clA [(b0, .inr (9, [.int 0, .int 0, .ref b1, .ref b2, .int 0, .int 0, .ref b3, .ref b4, .ref b5, .ref b6, .int 0, .ref b7, .ref b8, .ref b9, .ref b10, .ref b11, .ref b12, .ref b13, .int 0, .int 0, .ref b14, .ref b15, .long 0, .int 0, .int 0, .ref b16, .int (-1), .ref b17]))] H4 := hPn
  replace hD : va_D A [(b0, .inr (9, [.int 0, .int 0, .ref b1, .ref b2, .int 0, .int 0, .ref b3, .ref b4, .ref b5, .ref b6, .int 0, .ref b7, .ref b8, .ref b9, .ref b10, .ref b11, .ref b12, .ref b13, .int 0, .int 0, .ref b14, .ref b15, .long 0, .int 0, .int 0, .ref b16, .int (-1), .ref b17]))] := hDn
  replace hS := hSn
  clear hPn hDn hSn
  clear hPc hDc hFc hP1 hD1 hk1 hz1 ht9 hvm
  refine W.cs (cells' := 0) (slots' := 0) rfl rfl ?_
  refine lv_aload_n hx hb d_Mo_unfold_46 rfl (lv_at hl 1 rfl) ?_
  refine va_get (D := (dC, dI)) (ci := 9) (v := .int 0) (C := "NetUnfolderModel") (T := T_Mo) (N := 28) hx hb ht in_Mo hown hK hP 0 rfl rfl 19 (by decide) (ht _ wd_4_19) (fun _ h9 => h9) rfl d_Mo_unfold_47 ?_
  refine lv_sipush (v := 200) hx hb d_Mo_unfold_50 (by decide) ?_
  refine lv_icmp_gt (tgt := 60) hx hb d_Mo_unfold_53 (by decide) (fun h => absurd h (by decide)) (fun _ => ?_)
  refine lv_iconst (v := 1) hx hb d_Mo_unfold_56 (by decide) ?_
  refine lv_goto (tgt := 61) hx hb d_Mo_unfold_57 (by decide) ?_
  refine lv_istore_n (lv' := [(1, .int 1), (0, .ref b0)]) hx hb d_Mo_unfold_61 rfl hl (by decide) rfl (fun ls hln => ?_)
  replace hl : lv_has ls 3 [(1, .int 1), (0, .ref b0)] := hln
  clear hln
  refine lv_iload_n hx hb d_Mo_unfold_62 rfl (lv_at hl 0 rfl) ?_
  refine lv_if_eq (tgt := 179) hx hb d_Mo_unfold_63 (by decide) (fun h => absurd h (by decide)) (fun _ => ?_)
  refine lv_aload_n hx hb d_Mo_unfold_66 rfl (lv_at hl 1 rfl) ?_
  refine va_get (D := (dC, dI)) (ci := 9) (v := .int 0) (C := "NetUnfolderModel") (T := T_Mo) (N := 28) hx hb ht in_Mo hown hK hP 0 rfl rfl 19 (by decide) (ht _ wd_4_19) (fun _ h9 => h9) rfl d_Mo_unfold_67 ?_
  refine lv_if_le (tgt := 179) hx hb d_Mo_unfold_70 (by decide) (fun _ => ?_) (fun h => (h (by decide)).elim)
  refine lv_iload_n hx hb d_Mo_unfold_179 rfl (lv_at hl 0 rfl) ?_
  refine lv_if_ne (tgt := 190) hx hb d_Mo_unfold_180 (by decide) (fun _ => ?_) (fun h => absurd h (by decide))
  refine lv_aload_n hx hb d_Mo_unfold_190 rfl (lv_at hl 1 rfl) ?_
  refine lv_iconst (v := 1) hx hb d_Mo_unfold_191 (by decide) ?_
  refine va_put (D := (dC, dI)) (ci := 9) (v := .int 1) (ty := .boolean) (C := "NetUnfolderModel") (T := T_Mo) (N := 28) hx hb ht in_Mo ty_Mo ok_Mo nm_Mo hown hK hP hD hS 0 rfl rfl 18 (by decide) (ht _ wd_4_18) (fun _ h9 => h9) rfl (by decide +kernel) rfl rfl (Nat.le_of_ble_eq_true rfl) d_Mo_unfold_192 (fun H6 locs hPn hDn hSn => ?_)
  replace hP : va_P (dC, dI) clA [(b0, .inr (9, [.int 0, .int 0, .ref b1, .ref b2, .int 0, .int 0, .ref b3, .ref b4, .ref b5, .ref b6, .int 0, .ref b7, .ref b8, .ref b9, .ref b10, .ref b11, .ref b12, .ref b13, .int 1, .int 0, .ref b14, .ref b15, .long 0, .int 0, .int 0, .ref b16, .int (-1), .ref b17]))] H6 := hPn
  replace hD : va_D A [(b0, .inr (9, [.int 0, .int 0, .ref b1, .ref b2, .int 0, .int 0, .ref b3, .ref b4, .ref b5, .ref b6, .int 0, .ref b7, .ref b8, .ref b9, .ref b10, .ref b11, .ref b12, .ref b13, .int 1, .int 0, .ref b14, .ref b15, .long 0, .int 0, .int 0, .ref b16, .int (-1), .ref b17]))] := hDn
  replace hS := hSn
  clear hPn hDn hSn
  refine lv_aload_n hx hb d_Mo_unfold_195 rfl (lv_at hl 1 rfl) ?_
  refine va_get (D := (dC, dI)) (ci := 9) (v := .int 0) (C := "NetUnfolderModel") (T := T_Mo) (N := 28) hx hb ht in_Mo hown hK hP 0 rfl rfl 10 (by decide) (ht _ wd_4_10) (fun _ h9 => h9) rfl d_Mo_unfold_196 ?_
  have hP9 := hP.sub (ws' := [(b0, .inr (9, [.int 0, .int 0, .ref b1, .ref b2, .int 0, .int 0, .ref b3, .ref b4, .ref b5, .ref b6, .int 0, .ref b7, .ref b8, .ref b9, .ref b10, .ref b11, .ref b12, .ref b13, .int 1, .int 0, .ref b14, .ref b15, .long 0, .int 0, .int 0, .ref b16, .int (-1), .ref b17]))]) [0] rfl
  have hD9 := hD.sub (ws' := [(b0, .inr (9, [.int 0, .int 0, .ref b1, .ref b2, .int 0, .int 0, .ref b3, .ref b4, .ref b5, .ref b6, .int 0, .ref b7, .ref b8, .ref b9, .ref b10, .ref b11, .ref b12, .ref b13, .int 1, .int 0, .ref b14, .ref b15, .long 0, .int 0, .int 0, .ref b16, .int (-1), .ref b17]))]) [0] (by decide) rfl
  exact W.iret (v := 0) hx hb hr (fun t ht9 hW => ⟨⟨0, (), rfl, rfl, by rw [ht9]; exact hP9, hD9⟩, hS.F ht9⟩) hS.2.2 d_Mo_unfold_199

set_option maxHeartbeats 4000000 in
set_option maxRecDepth 100000 in
theorem c_Mo_reach_0 (l : Launch) (dC : Nat → ClassId) (dI : Nat → Nat → Nat) (cI cL cZ : ClassId) (sz : Nat) (b0 : Nat) (b1 : Nat) (b2 : Nat) (b3 : Nat) (b4 : Nat) (b5 : Nat) (b6 : Nat) (b7 : Nat) (b8 : Nat) (b9 : Nat) (b10 : Nat) (b11 : Nat) (b12 : Nat) (b13 : Nat) (b14 : Nat) (b15 : Nat) (b16 : Nat) (b17 : Nat) (k0 : Int32) (h1 : k0 < 0) : Met l y_Mo_reach (Cond.code y_Mo_reach prog_11_method_33_code 2 (some .int) :: wsA) { frames := 1, cells := 0, slots := 0, locals := 22 } (va_Pc [.ref b0, .int k0] (fun U => U.heap.size = sz ∧ va_P (dC, dI) clA [(b0, .inr (9, [.int 0, .int 0, .ref b1, .ref b2, .int 0, .int 0, .ref b3, .ref b4, .ref b5, .ref b6, .int 0, .ref b7, .ref b8, .ref b9, .ref b10, .ref b11, .ref b12, .ref b13, .int 0, .int 0, .ref b14, .ref b15, .long 0, .int 0, .int 0, .ref b16, .int (-1), .ref b17]))] U.heap ∧ va_K (dC, dI) clA [(cI, .int), (cL, .long), (cZ, .boolean)] U ∧ va_D (fun _ => True) [(b0, .inr (9, [.int 0, .int 0, .ref b1, .ref b2, .int 0, .int 0, .ref b3, .ref b4, .ref b5, .ref b6, .int 0, .ref b7, .ref b8, .ref b9, .ref b10, .ref b11, .ref b12, .ref b13, .int 0, .int 0, .ref b14, .ref b15, .long 0, .int 0, .int 0, .ref b16, .int (-1), .ref b17]))] ∧ NwA U)) (va_Qi (fun r (_ : Unit) => r = 0) (fun _ t => va_P (dC, dI) clA [(b0, .inr (9, [.int 1, .int 0, .ref b1, .ref b2, .int 0, .int 0, .ref b3, .ref b4, .ref b5, .ref b6, .int 0, .ref b7, .ref b8, .ref b9, .ref b10, .ref b11, .ref b12, .ref b13, .int 0, .int 0, .ref b14, .ref b15, .long 0, .int 0, .int 0, .ref b16, .int (-1), .ref b17]))] t.heap ∧ va_D (va_A [(b0, .inr (9, [.int 0, .int 0, .ref b1, .ref b2, .int 0, .int 0, .ref b3, .ref b4, .ref b5, .ref b6, .int 0, .ref b7, .ref b8, .ref b9, .ref b10, .ref b11, .ref b12, .ref b13, .int 0, .int 0, .ref b14, .ref b15, .long 0, .int 0, .int 0, .ref b16, .int (-1), .ref b17]))] sz) [(b0, .inr (9, [.int 1, .int 0, .ref b1, .ref b2, .int 0, .int 0, .ref b3, .ref b4, .ref b5, .ref b6, .int 0, .ref b7, .ref b8, .ref b9, .ref b10, .ref b11, .ref b12, .ref b13, .int 0, .int 0, .ref b14, .ref b15, .long 0, .int 0, .int 0, .ref b16, .int (-1), .ref b17]))]) (va_A [(b0, .inr (9, [.int 0, .int 0, .ref b1, .ref b2, .int 0, .int 0, .ref b3, .ref b4, .ref b5, .ref b6, .int 0, .ref b7, .ref b8, .ref b9, .ref b10, .ref b11, .ref b12, .ref b13, .int 0, .int 0, .ref b14, .ref b15, .long 0, .int 0, .int 0, .ref b16, .int (-1), .ref b17]))] sz)) 0 0 (va_A [(b0, .inr (9, [.int 0, .int 0, .ref b1, .ref b2, .int 0, .int 0, .ref b3, .ref b4, .ref b5, .ref b6, .int 0, .ref b7, .ref b8, .ref b9, .ref b10, .ref b11, .ref b12, .ref b13, .int 0, .int 0, .ref b14, .ref b15, .long 0, .int 0, .int 0, .ref b16, .int (-1), .ref b17]))] sz) := by
  refine Met.ofW (cc := prog_11_method_33_code) (maxL := 2) (ret := (some .int)) (by decide) rfl ?_
  intro p e s m args below meth c s₁ B hml hv
  obtain ⟨rfl, hsz, hP, hK, hD0, hN⟩ := hv
  have hx := B.exec
  have hb := B.bytes
  have hr := B.returns
  have ht : ∀ w ∈ wsA, w.before _ s = true := fun w h => atoms_spec (ws := (Cond.code y_Mo_reach prog_11_method_33_code 2 (some .int) :: wsA)) B.pre w (List.mem_cons_of_mem _ h)
  have hown : s.vm.findClass "NetUnfolderModel" = some m.cls := findClass_of_methodNamed B.named
  have hlocks := B.notSynchronized
  subst hsz
  have hD := hD0.self (sz := s.heap.size)
  generalize hAe : va_A [(b0, .inr (9, [.int 0, .int 0, .ref b1, .ref b2, .int 0, .int 0, .ref b3, .ref b4, .ref b5, .ref b6, .int 0, .ref b7, .ref b8, .ref b9, .ref b10, .ref b11, .ref b12, .ref b13, .int 0, .int 0, .ref b14, .ref b15, .long 0, .int 0, .int 0, .ref b16, .int (-1), .ref b17]))] s.heap.size = A at hD ⊢
  have hA : ∀ q : Nat, s.heap.size ≤ q → A q := fun q h => by rw [← hAe]; exact Or.inr h
  have hS : va_S A s.heap s.heap [] := va_S.rf
  have hl := lv_entry ([.ref b0, .int k0]) (n := 2) (Nat.le_of_ble_eq_true rfl)
  rw [lg_entry_eq]
  generalize (lg_sl ([.ref b0, .int k0]) ++ List.replicate (2 - (lg_sl ([.ref b0, .int k0])).length) Slot.unset).toArray = ls at hl ⊢
  replace hl : lv_has ls 2 [(0, .ref b0), (1, .int k0)] := hl
  refine lv_aload_n hx hb d_Mo_reach_0 rfl (lv_at hl 0 rfl) ?_
  refine lv_iload_n hx hb d_Mo_reach_1 rfl (lv_at hl 1 rfl) ?_
  refine lv_iconst (v := 0) hx hb d_Mo_reach_2 (by decide) ?_
  refine lv_sipush (v := 255) hx hb d_Mo_reach_3 (by decide) ?_
  have hPc : va_P (dC, dI) clA [] _ := pu_P (H := s.heap)
  have hDc : va_D (fun _ => True) [] := pu_D
  have hFc := pu_free hS hA
  refine va_calli (va_runS (As := [.int k0, .int 0, .int 255]) (rest := [.ref b0]) ⟨hx, hb, hml, hown, ht⟩ (c_Mo_outside_0_255_lo l dC dI cI cL cZ _ k0 h1) (va_cwS 3 ht (good_S wd_4_94 wd_4_95 wd_1_10 wd_4_96) rfl rfl rfl (by decide +kernel) ⟨Nat.le_of_ble_eq_true rfl, Nat.le_of_ble_eq_true rfl⟩) ⟨fun a U g mk q => by obtain ⟨q0, q1, qP, qK, qD, qN⟩ := q; exact ⟨q0, q1, qP, va_K.moved (u := U) (U := U.calling g mk a) (Vm.Alike.refl U.vm) qK, qD, NwA.same (u := U) rfl qN⟩, fun U hU hW => ⟨rfl, by rw [hU], by rw [hU]; exact hPc, va_K.moved hW.alike hK, hDc.weaken (fun _ _ _ _ => trivial), NwA.warm hW hN⟩⟩ rfl rfl hl.1 rfl (lv_room (Nat.le_of_ble_eq_true rfl)) d_Mo_reach_6 ⟨Nat.le_of_ble_eq_true rfl, Nat.le_of_ble_eq_true rfl⟩) hS (fun q _ h => hFc q h) hFc (fun r9 u t H1 locs ht9 hvm hw2 hB hz1 hk1 hSn => ?_)
  replace hP : va_P (dC, dI) clA [(b0, .inr (9, [.int 0, .int 0, .ref b1, .ref b2, .int 0, .int 0, .ref b3, .ref b4, .ref b5, .ref b6, .int 0, .ref b7, .ref b8, .ref b9, .ref b10, .ref b11, .ref b12, .ref b13, .int 0, .int 0, .ref b14, .ref b15, .long 0, .int 0, .int 0, .ref b16, .int (-1), .ref b17]))] H1 := pu_keep hP hk1
  replace hS := hSn
  clear hSn hPc hDc hFc hk1 hz1 ht9 hvm hB
  refine W.cs (cells' := 0) (slots' := 0) rfl rfl ?_
  subst hw2
  refine lv_if_eq (tgt := 16) hx hb d_Mo_reach_9 (by decide) (fun h => absurd h (by decide)) (fun _ => ?_)
  refine lv_iconst (v := 1) hx hb d_Mo_reach_12 (by decide) ?_
  refine lv_goto (tgt := 28) hx hb d_Mo_reach_13 (by decide) ?_
  refine va_put (D := (dC, dI)) (ci := 9) (v := .int 1) (ty := .int) (C := "NetUnfolderModel") (T := T_Mo) (N := 28) hx hb ht in_Mo ty_Mo ok_Mo nm_Mo hown hK hP hD hS 0 rfl rfl 0 (by decide) (ht _ wd_4_0) (fun _ h9 => h9) rfl (by decide +kernel) rfl rfl (Nat.le_of_ble_eq_true rfl) d_Mo_reach_28 (fun H3 locs hPn hDn hSn => ?_)
  replace hP : va_P (dC, dI) clA [(b0, .inr (9, [.int 1, .int 0, .ref b1, .ref b2, .int 0, .int 0, .ref b3, .ref b4, .ref b5, .ref b6, .int 0, .ref b7, .ref b8, .ref b9, .ref b10, .ref b11, .ref b12, .ref b13, .int 0, .int 0, .ref b14, .ref b15, .long 0, .int 0, .int 0, .ref b16, .int (-1), .ref b17]))] H3 := hPn
  replace hD : va_D A [(b0, .inr (9, [.int 1, .int 0, .ref b1, .ref b2, .int 0, .int 0, .ref b3, .ref b4, .ref b5, .ref b6, .int 0, .ref b7, .ref b8, .ref b9, .ref b10, .ref b11, .ref b12, .ref b13, .int 0, .int 0, .ref b14, .ref b15, .long 0, .int 0, .int 0, .ref b16, .int (-1), .ref b17]))] := hDn
  replace hS := hSn
  clear hPn hDn hSn
  refine lv_aload_n hx hb d_Mo_reach_31 rfl (lv_at hl 0 rfl) ?_
  refine va_get (D := (dC, dI)) (ci := 9) (v := .int 1) (C := "NetUnfolderModel") (T := T_Mo) (N := 28) hx hb ht in_Mo hown hK hP 0 rfl rfl 0 (by decide) (ht _ wd_4_0) (fun _ h9 => h9) rfl d_Mo_reach_32 ?_
  refine lv_if_eq (tgt := 42) hx hb d_Mo_reach_35 (by decide) (fun h => absurd h (by decide)) (fun _ => ?_)
  refine lv_iconst (v := 0) hx hb d_Mo_reach_38 (by decide) ?_
  refine lv_goto (tgt := 47) hx hb d_Mo_reach_39 (by decide) ?_
  have hP9 := hP.sub (ws' := [(b0, .inr (9, [.int 1, .int 0, .ref b1, .ref b2, .int 0, .int 0, .ref b3, .ref b4, .ref b5, .ref b6, .int 0, .ref b7, .ref b8, .ref b9, .ref b10, .ref b11, .ref b12, .ref b13, .int 0, .int 0, .ref b14, .ref b15, .long 0, .int 0, .int 0, .ref b16, .int (-1), .ref b17]))]) [0] rfl
  have hD9 := hD.sub (ws' := [(b0, .inr (9, [.int 1, .int 0, .ref b1, .ref b2, .int 0, .int 0, .ref b3, .ref b4, .ref b5, .ref b6, .int 0, .ref b7, .ref b8, .ref b9, .ref b10, .ref b11, .ref b12, .ref b13, .int 0, .int 0, .ref b14, .ref b15, .long 0, .int 0, .int 0, .ref b16, .int (-1), .ref b17]))]) [0] (by decide) rfl
  exact W.iret (v := 0) hx hb hr (fun t ht9 hW => ⟨⟨0, (), rfl, rfl, by rw [ht9]; exact hP9, hD9⟩, hS.F ht9⟩) hS.2.2 d_Mo_reach_47

set_option maxHeartbeats 4000000 in
set_option maxRecDepth 100000 in
theorem c_Mo_reach_1 (l : Launch) (dC : Nat → ClassId) (dI : Nat → Nat → Nat) (cI cL cZ : ClassId) (sz : Nat) (b0 : Nat) (b1 : Nat) (b2 : Nat) (b3 : Nat) (b4 : Nat) (b5 : Nat) (b6 : Nat) (b7 : Nat) (b8 : Nat) (b9 : Nat) (b10 : Nat) (b11 : Nat) (b12 : Nat) (b13 : Nat) (b14 : Nat) (b15 : Nat) (b16 : Nat) (b17 : Nat) (k0 : Int32) (h2 : 255 < k0) : Met l y_Mo_reach (Cond.code y_Mo_reach prog_11_method_33_code 2 (some .int) :: wsA) { frames := 1, cells := 0, slots := 0, locals := 22 } (va_Pc [.ref b0, .int k0] (fun U => U.heap.size = sz ∧ va_P (dC, dI) clA [(b0, .inr (9, [.int 0, .int 0, .ref b1, .ref b2, .int 0, .int 0, .ref b3, .ref b4, .ref b5, .ref b6, .int 0, .ref b7, .ref b8, .ref b9, .ref b10, .ref b11, .ref b12, .ref b13, .int 0, .int 0, .ref b14, .ref b15, .long 0, .int 0, .int 0, .ref b16, .int (-1), .ref b17]))] U.heap ∧ va_K (dC, dI) clA [(cI, .int), (cL, .long), (cZ, .boolean)] U ∧ va_D (fun _ => True) [(b0, .inr (9, [.int 0, .int 0, .ref b1, .ref b2, .int 0, .int 0, .ref b3, .ref b4, .ref b5, .ref b6, .int 0, .ref b7, .ref b8, .ref b9, .ref b10, .ref b11, .ref b12, .ref b13, .int 0, .int 0, .ref b14, .ref b15, .long 0, .int 0, .int 0, .ref b16, .int (-1), .ref b17]))] ∧ NwA U)) (va_Qi (fun r (_ : Unit) => r = 0) (fun _ t => va_P (dC, dI) clA [(b0, .inr (9, [.int 1, .int 0, .ref b1, .ref b2, .int 0, .int 0, .ref b3, .ref b4, .ref b5, .ref b6, .int 0, .ref b7, .ref b8, .ref b9, .ref b10, .ref b11, .ref b12, .ref b13, .int 0, .int 0, .ref b14, .ref b15, .long 0, .int 0, .int 0, .ref b16, .int (-1), .ref b17]))] t.heap ∧ va_D (va_A [(b0, .inr (9, [.int 0, .int 0, .ref b1, .ref b2, .int 0, .int 0, .ref b3, .ref b4, .ref b5, .ref b6, .int 0, .ref b7, .ref b8, .ref b9, .ref b10, .ref b11, .ref b12, .ref b13, .int 0, .int 0, .ref b14, .ref b15, .long 0, .int 0, .int 0, .ref b16, .int (-1), .ref b17]))] sz) [(b0, .inr (9, [.int 1, .int 0, .ref b1, .ref b2, .int 0, .int 0, .ref b3, .ref b4, .ref b5, .ref b6, .int 0, .ref b7, .ref b8, .ref b9, .ref b10, .ref b11, .ref b12, .ref b13, .int 0, .int 0, .ref b14, .ref b15, .long 0, .int 0, .int 0, .ref b16, .int (-1), .ref b17]))]) (va_A [(b0, .inr (9, [.int 0, .int 0, .ref b1, .ref b2, .int 0, .int 0, .ref b3, .ref b4, .ref b5, .ref b6, .int 0, .ref b7, .ref b8, .ref b9, .ref b10, .ref b11, .ref b12, .ref b13, .int 0, .int 0, .ref b14, .ref b15, .long 0, .int 0, .int 0, .ref b16, .int (-1), .ref b17]))] sz)) 0 0 (va_A [(b0, .inr (9, [.int 0, .int 0, .ref b1, .ref b2, .int 0, .int 0, .ref b3, .ref b4, .ref b5, .ref b6, .int 0, .ref b7, .ref b8, .ref b9, .ref b10, .ref b11, .ref b12, .ref b13, .int 0, .int 0, .ref b14, .ref b15, .long 0, .int 0, .int 0, .ref b16, .int (-1), .ref b17]))] sz) := by
  refine Met.ofW (cc := prog_11_method_33_code) (maxL := 2) (ret := (some .int)) (by decide) rfl ?_
  intro p e s m args below meth c s₁ B hml hv
  obtain ⟨rfl, hsz, hP, hK, hD0, hN⟩ := hv
  have hx := B.exec
  have hb := B.bytes
  have hr := B.returns
  have ht : ∀ w ∈ wsA, w.before _ s = true := fun w h => atoms_spec (ws := (Cond.code y_Mo_reach prog_11_method_33_code 2 (some .int) :: wsA)) B.pre w (List.mem_cons_of_mem _ h)
  have hown : s.vm.findClass "NetUnfolderModel" = some m.cls := findClass_of_methodNamed B.named
  have hlocks := B.notSynchronized
  subst hsz
  have hD := hD0.self (sz := s.heap.size)
  generalize hAe : va_A [(b0, .inr (9, [.int 0, .int 0, .ref b1, .ref b2, .int 0, .int 0, .ref b3, .ref b4, .ref b5, .ref b6, .int 0, .ref b7, .ref b8, .ref b9, .ref b10, .ref b11, .ref b12, .ref b13, .int 0, .int 0, .ref b14, .ref b15, .long 0, .int 0, .int 0, .ref b16, .int (-1), .ref b17]))] s.heap.size = A at hD ⊢
  have hA : ∀ q : Nat, s.heap.size ≤ q → A q := fun q h => by rw [← hAe]; exact Or.inr h
  have hS : va_S A s.heap s.heap [] := va_S.rf
  have hl := lv_entry ([.ref b0, .int k0]) (n := 2) (Nat.le_of_ble_eq_true rfl)
  rw [lg_entry_eq]
  generalize (lg_sl ([.ref b0, .int k0]) ++ List.replicate (2 - (lg_sl ([.ref b0, .int k0])).length) Slot.unset).toArray = ls at hl ⊢
  replace hl : lv_has ls 2 [(0, .ref b0), (1, .int k0)] := hl
  refine lv_aload_n hx hb d_Mo_reach_0 rfl (lv_at hl 0 rfl) ?_
  refine lv_iload_n hx hb d_Mo_reach_1 rfl (lv_at hl 1 rfl) ?_
  refine lv_iconst (v := 0) hx hb d_Mo_reach_2 (by decide) ?_
  refine lv_sipush (v := 255) hx hb d_Mo_reach_3 (by decide) ?_
  have hPc : va_P (dC, dI) clA [] _ := pu_P (H := s.heap)
  have hDc : va_D (fun _ => True) [] := pu_D
  have hFc := pu_free hS hA
  refine va_calli (va_runS (As := [.int k0, .int 0, .int 255]) (rest := [.ref b0]) ⟨hx, hb, hml, hown, ht⟩ (c_Mo_outside_0_255_hi l dC dI cI cL cZ _ k0 (ga_nlt (k := 0) (by decide) (by have eh2 := fb_lt (k := 255) (by decide) h2; omega)) h2) (va_cwS 3 ht (good_S wd_4_94 wd_4_95 wd_1_10 wd_4_96) rfl rfl rfl (by decide +kernel) ⟨Nat.le_of_ble_eq_true rfl, Nat.le_of_ble_eq_true rfl⟩) ⟨fun a U g mk q => by obtain ⟨q0, q1, qP, qK, qD, qN⟩ := q; exact ⟨q0, q1, qP, va_K.moved (u := U) (U := U.calling g mk a) (Vm.Alike.refl U.vm) qK, qD, NwA.same (u := U) rfl qN⟩, fun U hU hW => ⟨rfl, by rw [hU], by rw [hU]; exact hPc, va_K.moved hW.alike hK, hDc.weaken (fun _ _ _ _ => trivial), NwA.warm hW hN⟩⟩ rfl rfl hl.1 rfl (lv_room (Nat.le_of_ble_eq_true rfl)) d_Mo_reach_6 ⟨Nat.le_of_ble_eq_true rfl, Nat.le_of_ble_eq_true rfl⟩) hS (fun q _ h => hFc q h) hFc (fun r9 u t H1 locs ht9 hvm hw2 hB hz1 hk1 hSn => ?_)
  replace hP : va_P (dC, dI) clA [(b0, .inr (9, [.int 0, .int 0, .ref b1, .ref b2, .int 0, .int 0, .ref b3, .ref b4, .ref b5, .ref b6, .int 0, .ref b7, .ref b8, .ref b9, .ref b10, .ref b11, .ref b12, .ref b13, .int 0, .int 0, .ref b14, .ref b15, .long 0, .int 0, .int 0, .ref b16, .int (-1), .ref b17]))] H1 := pu_keep hP hk1
  replace hS := hSn
  clear hSn hPc hDc hFc hk1 hz1 ht9 hvm hB
  refine W.cs (cells' := 0) (slots' := 0) rfl rfl ?_
  subst hw2
  refine lv_if_eq (tgt := 16) hx hb d_Mo_reach_9 (by decide) (fun h => absurd h (by decide)) (fun _ => ?_)
  refine lv_iconst (v := 1) hx hb d_Mo_reach_12 (by decide) ?_
  refine lv_goto (tgt := 28) hx hb d_Mo_reach_13 (by decide) ?_
  refine va_put (D := (dC, dI)) (ci := 9) (v := .int 1) (ty := .int) (C := "NetUnfolderModel") (T := T_Mo) (N := 28) hx hb ht in_Mo ty_Mo ok_Mo nm_Mo hown hK hP hD hS 0 rfl rfl 0 (by decide) (ht _ wd_4_0) (fun _ h9 => h9) rfl (by decide +kernel) rfl rfl (Nat.le_of_ble_eq_true rfl) d_Mo_reach_28 (fun H3 locs hPn hDn hSn => ?_)
  replace hP : va_P (dC, dI) clA [(b0, .inr (9, [.int 1, .int 0, .ref b1, .ref b2, .int 0, .int 0, .ref b3, .ref b4, .ref b5, .ref b6, .int 0, .ref b7, .ref b8, .ref b9, .ref b10, .ref b11, .ref b12, .ref b13, .int 0, .int 0, .ref b14, .ref b15, .long 0, .int 0, .int 0, .ref b16, .int (-1), .ref b17]))] H3 := hPn
  replace hD : va_D A [(b0, .inr (9, [.int 1, .int 0, .ref b1, .ref b2, .int 0, .int 0, .ref b3, .ref b4, .ref b5, .ref b6, .int 0, .ref b7, .ref b8, .ref b9, .ref b10, .ref b11, .ref b12, .ref b13, .int 0, .int 0, .ref b14, .ref b15, .long 0, .int 0, .int 0, .ref b16, .int (-1), .ref b17]))] := hDn
  replace hS := hSn
  clear hPn hDn hSn
  refine lv_aload_n hx hb d_Mo_reach_31 rfl (lv_at hl 0 rfl) ?_
  refine va_get (D := (dC, dI)) (ci := 9) (v := .int 1) (C := "NetUnfolderModel") (T := T_Mo) (N := 28) hx hb ht in_Mo hown hK hP 0 rfl rfl 0 (by decide) (ht _ wd_4_0) (fun _ h9 => h9) rfl d_Mo_reach_32 ?_
  refine lv_if_eq (tgt := 42) hx hb d_Mo_reach_35 (by decide) (fun h => absurd h (by decide)) (fun _ => ?_)
  refine lv_iconst (v := 0) hx hb d_Mo_reach_38 (by decide) ?_
  refine lv_goto (tgt := 47) hx hb d_Mo_reach_39 (by decide) ?_
  have hP9 := hP.sub (ws' := [(b0, .inr (9, [.int 1, .int 0, .ref b1, .ref b2, .int 0, .int 0, .ref b3, .ref b4, .ref b5, .ref b6, .int 0, .ref b7, .ref b8, .ref b9, .ref b10, .ref b11, .ref b12, .ref b13, .int 0, .int 0, .ref b14, .ref b15, .long 0, .int 0, .int 0, .ref b16, .int (-1), .ref b17]))]) [0] rfl
  have hD9 := hD.sub (ws' := [(b0, .inr (9, [.int 1, .int 0, .ref b1, .ref b2, .int 0, .int 0, .ref b3, .ref b4, .ref b5, .ref b6, .int 0, .ref b7, .ref b8, .ref b9, .ref b10, .ref b11, .ref b12, .ref b13, .int 0, .int 0, .ref b14, .ref b15, .long 0, .int 0, .int 0, .ref b16, .int (-1), .ref b17]))]) [0] (by decide) rfl
  exact W.iret (v := 0) hx hb hr (fun t ht9 hW => ⟨⟨0, (), rfl, rfl, by rw [ht9]; exact hP9, hD9⟩, hS.F ht9⟩) hS.2.2 d_Mo_reach_47

set_option maxHeartbeats 4000000 in
set_option maxRecDepth 100000 in
theorem c_Mo_reach_2 (l : Launch) (dC : Nat → ClassId) (dI : Nat → Nat → Nat) (cI cL cZ : ClassId) (sz : Nat) (b0 : Nat) (b1 : Nat) (b2 : Nat) (b3 : Nat) (b4 : Nat) (b5 : Nat) (b6 : Nat) (b7 : Nat) (b8 : Nat) (b9 : Nat) (b10 : Nat) (b11 : Nat) (b12 : Nat) (b13 : Nat) (b14 : Nat) (b15 : Nat) (b16 : Nat) (b17 : Nat) (k0 : Int32) (h1 : ¬ k0 < 0) (h2 : ¬ 255 < k0) : Met l y_Mo_reach (Cond.code y_Mo_reach prog_11_method_33_code 2 (some .int) :: wsA) { frames := 1, cells := 0, slots := 0, locals := 22 } (va_Pc [.ref b0, .int k0] (fun U => U.heap.size = sz ∧ va_P (dC, dI) clA [(b0, .inr (9, [.int 0, .int 0, .ref b1, .ref b2, .int 0, .int 0, .ref b3, .ref b4, .ref b5, .ref b6, .int 0, .ref b7, .ref b8, .ref b9, .ref b10, .ref b11, .ref b12, .ref b13, .int 0, .int 0, .ref b14, .ref b15, .long 0, .int 0, .int 0, .ref b16, .int (-1), .ref b17]))] U.heap ∧ va_K (dC, dI) clA [(cI, .int), (cL, .long), (cZ, .boolean)] U ∧ va_D (fun _ => True) [(b0, .inr (9, [.int 0, .int 0, .ref b1, .ref b2, .int 0, .int 0, .ref b3, .ref b4, .ref b5, .ref b6, .int 0, .ref b7, .ref b8, .ref b9, .ref b10, .ref b11, .ref b12, .ref b13, .int 0, .int 0, .ref b14, .ref b15, .long 0, .int 0, .int 0, .ref b16, .int (-1), .ref b17]))] ∧ NwA U)) (va_Qi (fun r (_ : Unit) => r = 0) (fun _ t => va_P (dC, dI) clA [(b0, .inr (9, [.int 2, .int 0, .ref b1, .ref b2, .int 0, .int 0, .ref b3, .ref b4, .ref b5, .ref b6, .int 0, .ref b7, .ref b8, .ref b9, .ref b10, .ref b11, .ref b12, .ref b13, .int 0, .int 0, .ref b14, .ref b15, .long 0, .int 0, .int 0, .ref b16, .int (-1), .ref b17]))] t.heap ∧ va_D (va_A [(b0, .inr (9, [.int 0, .int 0, .ref b1, .ref b2, .int 0, .int 0, .ref b3, .ref b4, .ref b5, .ref b6, .int 0, .ref b7, .ref b8, .ref b9, .ref b10, .ref b11, .ref b12, .ref b13, .int 0, .int 0, .ref b14, .ref b15, .long 0, .int 0, .int 0, .ref b16, .int (-1), .ref b17]))] sz) [(b0, .inr (9, [.int 2, .int 0, .ref b1, .ref b2, .int 0, .int 0, .ref b3, .ref b4, .ref b5, .ref b6, .int 0, .ref b7, .ref b8, .ref b9, .ref b10, .ref b11, .ref b12, .ref b13, .int 0, .int 0, .ref b14, .ref b15, .long 0, .int 0, .int 0, .ref b16, .int (-1), .ref b17]))]) (va_A [(b0, .inr (9, [.int 0, .int 0, .ref b1, .ref b2, .int 0, .int 0, .ref b3, .ref b4, .ref b5, .ref b6, .int 0, .ref b7, .ref b8, .ref b9, .ref b10, .ref b11, .ref b12, .ref b13, .int 0, .int 0, .ref b14, .ref b15, .long 0, .int 0, .int 0, .ref b16, .int (-1), .ref b17]))] sz)) 0 0 (va_A [(b0, .inr (9, [.int 0, .int 0, .ref b1, .ref b2, .int 0, .int 0, .ref b3, .ref b4, .ref b5, .ref b6, .int 0, .ref b7, .ref b8, .ref b9, .ref b10, .ref b11, .ref b12, .ref b13, .int 0, .int 0, .ref b14, .ref b15, .long 0, .int 0, .int 0, .ref b16, .int (-1), .ref b17]))] sz) := by
  refine Met.ofW (cc := prog_11_method_33_code) (maxL := 2) (ret := (some .int)) (by decide) rfl ?_
  intro p e s m args below meth c s₁ B hml hv
  obtain ⟨rfl, hsz, hP, hK, hD0, hN⟩ := hv
  have hx := B.exec
  have hb := B.bytes
  have hr := B.returns
  have ht : ∀ w ∈ wsA, w.before _ s = true := fun w h => atoms_spec (ws := (Cond.code y_Mo_reach prog_11_method_33_code 2 (some .int) :: wsA)) B.pre w (List.mem_cons_of_mem _ h)
  have hown : s.vm.findClass "NetUnfolderModel" = some m.cls := findClass_of_methodNamed B.named
  have hlocks := B.notSynchronized
  subst hsz
  have hD := hD0.self (sz := s.heap.size)
  generalize hAe : va_A [(b0, .inr (9, [.int 0, .int 0, .ref b1, .ref b2, .int 0, .int 0, .ref b3, .ref b4, .ref b5, .ref b6, .int 0, .ref b7, .ref b8, .ref b9, .ref b10, .ref b11, .ref b12, .ref b13, .int 0, .int 0, .ref b14, .ref b15, .long 0, .int 0, .int 0, .ref b16, .int (-1), .ref b17]))] s.heap.size = A at hD ⊢
  have hA : ∀ q : Nat, s.heap.size ≤ q → A q := fun q h => by rw [← hAe]; exact Or.inr h
  have hS : va_S A s.heap s.heap [] := va_S.rf
  have hl := lv_entry ([.ref b0, .int k0]) (n := 2) (Nat.le_of_ble_eq_true rfl)
  rw [lg_entry_eq]
  generalize (lg_sl ([.ref b0, .int k0]) ++ List.replicate (2 - (lg_sl ([.ref b0, .int k0])).length) Slot.unset).toArray = ls at hl ⊢
  replace hl : lv_has ls 2 [(0, .ref b0), (1, .int k0)] := hl
  refine lv_aload_n hx hb d_Mo_reach_0 rfl (lv_at hl 0 rfl) ?_
  refine lv_iload_n hx hb d_Mo_reach_1 rfl (lv_at hl 1 rfl) ?_
  refine lv_iconst (v := 0) hx hb d_Mo_reach_2 (by decide) ?_
  refine lv_sipush (v := 255) hx hb d_Mo_reach_3 (by decide) ?_
  have hPc : va_P (dC, dI) clA [] _ := pu_P (H := s.heap)
  have hDc : va_D (fun _ => True) [] := pu_D
  have hFc := pu_free hS hA
  refine va_calli (va_runS (As := [.int k0, .int 0, .int 255]) (rest := [.ref b0]) ⟨hx, hb, hml, hown, ht⟩ (c_Mo_outside_0_255_ok l dC dI cI cL cZ _ k0 h1 h2) (va_cwS 3 ht (good_S wd_4_94 wd_4_95 wd_1_10 wd_4_96) rfl rfl rfl (by decide +kernel) ⟨Nat.le_of_ble_eq_true rfl, Nat.le_of_ble_eq_true rfl⟩) ⟨fun a U g mk q => by obtain ⟨q0, q1, qP, qK, qD, qN⟩ := q; exact ⟨q0, q1, qP, va_K.moved (u := U) (U := U.calling g mk a) (Vm.Alike.refl U.vm) qK, qD, NwA.same (u := U) rfl qN⟩, fun U hU hW => ⟨rfl, by rw [hU], by rw [hU]; exact hPc, va_K.moved hW.alike hK, hDc.weaken (fun _ _ _ _ => trivial), NwA.warm hW hN⟩⟩ rfl rfl hl.1 rfl (lv_room (Nat.le_of_ble_eq_true rfl)) d_Mo_reach_6 ⟨Nat.le_of_ble_eq_true rfl, Nat.le_of_ble_eq_true rfl⟩) hS (fun q _ h => hFc q h) hFc (fun r9 u t H1 locs ht9 hvm hw2 hB hz1 hk1 hSn => ?_)
  replace hP : va_P (dC, dI) clA [(b0, .inr (9, [.int 0, .int 0, .ref b1, .ref b2, .int 0, .int 0, .ref b3, .ref b4, .ref b5, .ref b6, .int 0, .ref b7, .ref b8, .ref b9, .ref b10, .ref b11, .ref b12, .ref b13, .int 0, .int 0, .ref b14, .ref b15, .long 0, .int 0, .int 0, .ref b16, .int (-1), .ref b17]))] H1 := pu_keep hP hk1
  replace hS := hSn
  clear hSn hPc hDc hFc hk1 hz1 ht9 hvm hB
  refine W.cs (cells' := 0) (slots' := 0) rfl rfl ?_
  subst hw2
  refine lv_if_eq (tgt := 16) hx hb d_Mo_reach_9 (by decide) (fun _ => ?_) (fun h => (h (by decide)).elim)
  refine lv_aload_n hx hb d_Mo_reach_16 rfl (lv_at hl 0 rfl) ?_
  refine va_get (D := (dC, dI)) (ci := 9) (v := .int 0) (C := "NetUnfolderModel") (T := T_Mo) (N := 28) hx hb ht in_Mo hown hK hP 0 rfl rfl 18 (by decide) (ht _ wd_4_18) (fun _ h9 => h9) rfl d_Mo_reach_17 ?_
  refine lv_if_ne (tgt := 27) hx hb d_Mo_reach_20 (by decide) (fun h => (h (by decide)).elim) (fun _ => ?_)
  refine lv_iconst (v := 2) hx hb d_Mo_reach_23 (by decide) ?_
  refine lv_goto (tgt := 28) hx hb d_Mo_reach_24 (by decide) ?_
  refine va_put (D := (dC, dI)) (ci := 9) (v := .int 2) (ty := .int) (C := "NetUnfolderModel") (T := T_Mo) (N := 28) hx hb ht in_Mo ty_Mo ok_Mo nm_Mo hown hK hP hD hS 0 rfl rfl 0 (by decide) (ht _ wd_4_0) (fun _ h9 => h9) rfl (by decide +kernel) rfl rfl (Nat.le_of_ble_eq_true rfl) d_Mo_reach_28 (fun H3 locs hPn hDn hSn => ?_)
  replace hP : va_P (dC, dI) clA [(b0, .inr (9, [.int 2, .int 0, .ref b1, .ref b2, .int 0, .int 0, .ref b3, .ref b4, .ref b5, .ref b6, .int 0, .ref b7, .ref b8, .ref b9, .ref b10, .ref b11, .ref b12, .ref b13, .int 0, .int 0, .ref b14, .ref b15, .long 0, .int 0, .int 0, .ref b16, .int (-1), .ref b17]))] H3 := hPn
  replace hD : va_D A [(b0, .inr (9, [.int 2, .int 0, .ref b1, .ref b2, .int 0, .int 0, .ref b3, .ref b4, .ref b5, .ref b6, .int 0, .ref b7, .ref b8, .ref b9, .ref b10, .ref b11, .ref b12, .ref b13, .int 0, .int 0, .ref b14, .ref b15, .long 0, .int 0, .int 0, .ref b16, .int (-1), .ref b17]))] := hDn
  replace hS := hSn
  clear hPn hDn hSn
  refine lv_aload_n hx hb d_Mo_reach_31 rfl (lv_at hl 0 rfl) ?_
  refine va_get (D := (dC, dI)) (ci := 9) (v := .int 2) (C := "NetUnfolderModel") (T := T_Mo) (N := 28) hx hb ht in_Mo hown hK hP 0 rfl rfl 0 (by decide) (ht _ wd_4_0) (fun _ h9 => h9) rfl d_Mo_reach_32 ?_
  refine lv_if_eq (tgt := 42) hx hb d_Mo_reach_35 (by decide) (fun h => absurd h (by decide)) (fun _ => ?_)
  refine lv_iconst (v := 0) hx hb d_Mo_reach_38 (by decide) ?_
  refine lv_goto (tgt := 47) hx hb d_Mo_reach_39 (by decide) ?_
  have hP9 := hP.sub (ws' := [(b0, .inr (9, [.int 2, .int 0, .ref b1, .ref b2, .int 0, .int 0, .ref b3, .ref b4, .ref b5, .ref b6, .int 0, .ref b7, .ref b8, .ref b9, .ref b10, .ref b11, .ref b12, .ref b13, .int 0, .int 0, .ref b14, .ref b15, .long 0, .int 0, .int 0, .ref b16, .int (-1), .ref b17]))]) [0] rfl
  have hD9 := hD.sub (ws' := [(b0, .inr (9, [.int 2, .int 0, .ref b1, .ref b2, .int 0, .int 0, .ref b3, .ref b4, .ref b5, .ref b6, .int 0, .ref b7, .ref b8, .ref b9, .ref b10, .ref b11, .ref b12, .ref b13, .int 0, .int 0, .ref b14, .ref b15, .long 0, .int 0, .int 0, .ref b16, .int (-1), .ref b17]))]) [0] (by decide) rfl
  exact W.iret (v := 0) hx hb hr (fun t ht9 hW => ⟨⟨0, (), rfl, rfl, by rw [ht9]; exact hP9, hD9⟩, hS.F ht9⟩) hS.2.2 d_Mo_reach_47

set_option maxHeartbeats 4000000 in
set_option maxRecDepth 100000 in
theorem c_Mo_deadlock (l : Launch) (dC : Nat → ClassId) (dI : Nat → Nat → Nat) (cI cL cZ : ClassId) (sz : Nat) (b0 : Nat) (b1 : Nat) (b2 : Nat) (b3 : Nat) (b4 : Nat) (b5 : Nat) (b6 : Nat) (b7 : Nat) (b8 : Nat) (b9 : Nat) (b10 : Nat) (b11 : Nat) (b12 : Nat) (b13 : Nat) (b14 : Nat) (b15 : Nat) (b16 : Nat) (b17 : Nat) : Met l y_Mo_deadlock (Cond.code y_Mo_deadlock prog_11_method_34_code 1 (some .int) :: wsA) { frames := 0, cells := 0, slots := 0, locals := 0 } (va_Pc [.ref b0] (fun U => U.heap.size = sz ∧ va_P (dC, dI) clA [(b0, .inr (9, [.int 0, .int 0, .ref b1, .ref b2, .int 0, .int 0, .ref b3, .ref b4, .ref b5, .ref b6, .int 0, .ref b7, .ref b8, .ref b9, .ref b10, .ref b11, .ref b12, .ref b13, .int 0, .int 0, .ref b14, .ref b15, .long 0, .int 0, .int 0, .ref b16, .int (-1), .ref b17]))] U.heap ∧ va_K (dC, dI) clA [(cI, .int), (cL, .long), (cZ, .boolean)] U ∧ va_D (fun _ => True) [(b0, .inr (9, [.int 0, .int 0, .ref b1, .ref b2, .int 0, .int 0, .ref b3, .ref b4, .ref b5, .ref b6, .int 0, .ref b7, .ref b8, .ref b9, .ref b10, .ref b11, .ref b12, .ref b13, .int 0, .int 0, .ref b14, .ref b15, .long 0, .int 0, .int 0, .ref b16, .int (-1), .ref b17]))] ∧ NwA U)) (va_Qi (fun r (_ : Unit) => r = 0) (fun _ t => va_P (dC, dI) clA [(b0, .inr (9, [.int 1, .int 0, .ref b1, .ref b2, .int 0, .int 0, .ref b3, .ref b4, .ref b5, .ref b6, .int 0, .ref b7, .ref b8, .ref b9, .ref b10, .ref b11, .ref b12, .ref b13, .int 0, .int 0, .ref b14, .ref b15, .long 0, .int 0, .int 0, .ref b16, .int (-1), .ref b17]))] t.heap ∧ va_D (va_A [(b0, .inr (9, [.int 0, .int 0, .ref b1, .ref b2, .int 0, .int 0, .ref b3, .ref b4, .ref b5, .ref b6, .int 0, .ref b7, .ref b8, .ref b9, .ref b10, .ref b11, .ref b12, .ref b13, .int 0, .int 0, .ref b14, .ref b15, .long 0, .int 0, .int 0, .ref b16, .int (-1), .ref b17]))] sz) [(b0, .inr (9, [.int 1, .int 0, .ref b1, .ref b2, .int 0, .int 0, .ref b3, .ref b4, .ref b5, .ref b6, .int 0, .ref b7, .ref b8, .ref b9, .ref b10, .ref b11, .ref b12, .ref b13, .int 0, .int 0, .ref b14, .ref b15, .long 0, .int 0, .int 0, .ref b16, .int (-1), .ref b17]))]) (va_A [(b0, .inr (9, [.int 0, .int 0, .ref b1, .ref b2, .int 0, .int 0, .ref b3, .ref b4, .ref b5, .ref b6, .int 0, .ref b7, .ref b8, .ref b9, .ref b10, .ref b11, .ref b12, .ref b13, .int 0, .int 0, .ref b14, .ref b15, .long 0, .int 0, .int 0, .ref b16, .int (-1), .ref b17]))] sz)) 0 0 (va_A [(b0, .inr (9, [.int 0, .int 0, .ref b1, .ref b2, .int 0, .int 0, .ref b3, .ref b4, .ref b5, .ref b6, .int 0, .ref b7, .ref b8, .ref b9, .ref b10, .ref b11, .ref b12, .ref b13, .int 0, .int 0, .ref b14, .ref b15, .long 0, .int 0, .int 0, .ref b16, .int (-1), .ref b17]))] sz) := by
  refine Met.ofW (cc := prog_11_method_34_code) (maxL := 1) (ret := (some .int)) (by decide) rfl ?_
  intro p e s m args below meth c s₁ B hml hv
  obtain ⟨rfl, hsz, hP, hK, hD0, hN⟩ := hv
  have hx := B.exec
  have hb := B.bytes
  have hr := B.returns
  have ht : ∀ w ∈ wsA, w.before _ s = true := fun w h => atoms_spec (ws := (Cond.code y_Mo_deadlock prog_11_method_34_code 1 (some .int) :: wsA)) B.pre w (List.mem_cons_of_mem _ h)
  have hown : s.vm.findClass "NetUnfolderModel" = some m.cls := findClass_of_methodNamed B.named
  have hlocks := B.notSynchronized
  subst hsz
  have hD := hD0.self (sz := s.heap.size)
  generalize hAe : va_A [(b0, .inr (9, [.int 0, .int 0, .ref b1, .ref b2, .int 0, .int 0, .ref b3, .ref b4, .ref b5, .ref b6, .int 0, .ref b7, .ref b8, .ref b9, .ref b10, .ref b11, .ref b12, .ref b13, .int 0, .int 0, .ref b14, .ref b15, .long 0, .int 0, .int 0, .ref b16, .int (-1), .ref b17]))] s.heap.size = A at hD ⊢
  have hA : ∀ q : Nat, s.heap.size ≤ q → A q := fun q h => by rw [← hAe]; exact Or.inr h
  have hS : va_S A s.heap s.heap [] := va_S.rf
  have hl := lv_entry ([.ref b0]) (n := 1) (Nat.le_of_ble_eq_true rfl)
  rw [lg_entry_eq]
  generalize (lg_sl ([.ref b0]) ++ List.replicate (1 - (lg_sl ([.ref b0])).length) Slot.unset).toArray = ls at hl ⊢
  replace hl : lv_has ls 1 [(0, .ref b0)] := hl
  refine lv_aload_n hx hb d_Mo_deadlock_0 rfl (lv_at hl 0 rfl) ?_
  refine lv_aload_n hx hb d_Mo_deadlock_1 rfl (lv_at hl 0 rfl) ?_
  refine va_get (D := (dC, dI)) (ci := 9) (v := .int 0) (C := "NetUnfolderModel") (T := T_Mo) (N := 28) hx hb ht in_Mo hown hK hP 0 rfl rfl 18 (by decide) (ht _ wd_4_18) (fun _ h9 => h9) rfl d_Mo_deadlock_2 ?_
  refine lv_if_eq (tgt := 12) hx hb d_Mo_deadlock_5 (by decide) (fun _ => ?_) (fun h => (h (by decide)).elim)
  refine lv_iconst (v := 1) hx hb d_Mo_deadlock_12 (by decide) ?_
  refine va_put (D := (dC, dI)) (ci := 9) (v := .int 1) (ty := .int) (C := "NetUnfolderModel") (T := T_Mo) (N := 28) hx hb ht in_Mo ty_Mo ok_Mo nm_Mo hown hK hP hD hS 0 rfl rfl 0 (by decide) (ht _ wd_4_0) (fun _ h9 => h9) rfl (by decide +kernel) rfl rfl (Nat.le_of_ble_eq_true rfl) d_Mo_deadlock_13 (fun H1 locs hPn hDn hSn => ?_)
  replace hP : va_P (dC, dI) clA [(b0, .inr (9, [.int 1, .int 0, .ref b1, .ref b2, .int 0, .int 0, .ref b3, .ref b4, .ref b5, .ref b6, .int 0, .ref b7, .ref b8, .ref b9, .ref b10, .ref b11, .ref b12, .ref b13, .int 0, .int 0, .ref b14, .ref b15, .long 0, .int 0, .int 0, .ref b16, .int (-1), .ref b17]))] H1 := hPn
  replace hD : va_D A [(b0, .inr (9, [.int 1, .int 0, .ref b1, .ref b2, .int 0, .int 0, .ref b3, .ref b4, .ref b5, .ref b6, .int 0, .ref b7, .ref b8, .ref b9, .ref b10, .ref b11, .ref b12, .ref b13, .int 0, .int 0, .ref b14, .ref b15, .long 0, .int 0, .int 0, .ref b16, .int (-1), .ref b17]))] := hDn
  replace hS := hSn
  clear hPn hDn hSn
  refine lv_aload_n hx hb d_Mo_deadlock_16 rfl (lv_at hl 0 rfl) ?_
  refine va_get (D := (dC, dI)) (ci := 9) (v := .int 1) (C := "NetUnfolderModel") (T := T_Mo) (N := 28) hx hb ht in_Mo hown hK hP 0 rfl rfl 0 (by decide) (ht _ wd_4_0) (fun _ h9 => h9) rfl d_Mo_deadlock_17 ?_
  refine lv_if_eq (tgt := 27) hx hb d_Mo_deadlock_20 (by decide) (fun h => absurd h (by decide)) (fun _ => ?_)
  refine lv_iconst (v := 0) hx hb d_Mo_deadlock_23 (by decide) ?_
  refine lv_goto (tgt := 32) hx hb d_Mo_deadlock_24 (by decide) ?_
  have hP9 := hP.sub (ws' := [(b0, .inr (9, [.int 1, .int 0, .ref b1, .ref b2, .int 0, .int 0, .ref b3, .ref b4, .ref b5, .ref b6, .int 0, .ref b7, .ref b8, .ref b9, .ref b10, .ref b11, .ref b12, .ref b13, .int 0, .int 0, .ref b14, .ref b15, .long 0, .int 0, .int 0, .ref b16, .int (-1), .ref b17]))]) [0] rfl
  have hD9 := hD.sub (ws' := [(b0, .inr (9, [.int 1, .int 0, .ref b1, .ref b2, .int 0, .int 0, .ref b3, .ref b4, .ref b5, .ref b6, .int 0, .ref b7, .ref b8, .ref b9, .ref b10, .ref b11, .ref b12, .ref b13, .int 0, .int 0, .ref b14, .ref b15, .long 0, .int 0, .int 0, .ref b16, .int (-1), .ref b17]))]) [0] (by decide) rfl
  exact W.iret (v := 0) hx hb hr (fun t ht9 hW => ⟨⟨0, (), rfl, rfl, by rw [ht9]; exact hP9, hD9⟩, hS.F ht9⟩) hS.2.2 d_Mo_deadlock_32

set_option maxHeartbeats 4000000 in
set_option maxRecDepth 100000 in
theorem c_Mo_way (l : Launch) (dC : Nat → ClassId) (dI : Nat → Nat → Nat) (cI cL cZ : ClassId) (sz : Nat) (b0 : Nat) (b1 : Nat) (b2 : Nat) (b3 : Nat) (b4 : Nat) (b5 : Nat) (b6 : Nat) (b7 : Nat) (b8 : Nat) (b9 : Nat) (b10 : Nat) (b11 : Nat) (b12 : Nat) (b13 : Nat) (b14 : Nat) (b15 : Nat) (b16 : Nat) (b17 : Nat) (k0 : Int32) : Met l y_Mo_way (Cond.code y_Mo_way prog_11_method_35_code 2 (some .int) :: wsA) { frames := 1, cells := 0, slots := 0, locals := 22 } (va_Pc [.ref b0, .int k0] (fun U => U.heap.size = sz ∧ va_P (dC, dI) clA [(b0, .inr (9, [.int 0, .int 0, .ref b1, .ref b2, .int 0, .int 0, .ref b3, .ref b4, .ref b5, .ref b6, .int 0, .ref b7, .ref b8, .ref b9, .ref b10, .ref b11, .ref b12, .ref b13, .int 0, .int 0, .ref b14, .ref b15, .long 0, .int 0, .int 0, .ref b16, .int (-1), .ref b17]))] U.heap ∧ va_K (dC, dI) clA [(cI, .int), (cL, .long), (cZ, .boolean)] U ∧ va_D (fun _ => True) [(b0, .inr (9, [.int 0, .int 0, .ref b1, .ref b2, .int 0, .int 0, .ref b3, .ref b4, .ref b5, .ref b6, .int 0, .ref b7, .ref b8, .ref b9, .ref b10, .ref b11, .ref b12, .ref b13, .int 0, .int 0, .ref b14, .ref b15, .long 0, .int 0, .int 0, .ref b16, .int (-1), .ref b17]))] ∧ NwA U)) (va_Qi (fun r (_ : Unit) => r = (-1)) (fun _ t => va_P (dC, dI) clA [(b0, .inr (9, [.int 0, .int 0, .ref b1, .ref b2, .int 0, .int 0, .ref b3, .ref b4, .ref b5, .ref b6, .int 0, .ref b7, .ref b8, .ref b9, .ref b10, .ref b11, .ref b12, .ref b13, .int 0, .int 0, .ref b14, .ref b15, .long 0, .int 0, .int 0, .ref b16, .int (-1), .ref b17]))] t.heap ∧ va_D (va_A [(b0, .inr (9, [.int 0, .int 0, .ref b1, .ref b2, .int 0, .int 0, .ref b3, .ref b4, .ref b5, .ref b6, .int 0, .ref b7, .ref b8, .ref b9, .ref b10, .ref b11, .ref b12, .ref b13, .int 0, .int 0, .ref b14, .ref b15, .long 0, .int 0, .int 0, .ref b16, .int (-1), .ref b17]))] sz) [(b0, .inr (9, [.int 0, .int 0, .ref b1, .ref b2, .int 0, .int 0, .ref b3, .ref b4, .ref b5, .ref b6, .int 0, .ref b7, .ref b8, .ref b9, .ref b10, .ref b11, .ref b12, .ref b13, .int 0, .int 0, .ref b14, .ref b15, .long 0, .int 0, .int 0, .ref b16, .int (-1), .ref b17]))]) (va_A [(b0, .inr (9, [.int 0, .int 0, .ref b1, .ref b2, .int 0, .int 0, .ref b3, .ref b4, .ref b5, .ref b6, .int 0, .ref b7, .ref b8, .ref b9, .ref b10, .ref b11, .ref b12, .ref b13, .int 0, .int 0, .ref b14, .ref b15, .long 0, .int 0, .int 0, .ref b16, .int (-1), .ref b17]))] sz)) 0 0 (va_A [(b0, .inr (9, [.int 0, .int 0, .ref b1, .ref b2, .int 0, .int 0, .ref b3, .ref b4, .ref b5, .ref b6, .int 0, .ref b7, .ref b8, .ref b9, .ref b10, .ref b11, .ref b12, .ref b13, .int 0, .int 0, .ref b14, .ref b15, .long 0, .int 0, .int 0, .ref b16, .int (-1), .ref b17]))] sz) := by
  refine Met.ofW (cc := prog_11_method_35_code) (maxL := 2) (ret := (some .int)) (by decide) rfl ?_
  intro p e s m args below meth c s₁ B hml hv
  obtain ⟨rfl, hsz, hP, hK, hD0, hN⟩ := hv
  have hx := B.exec
  have hb := B.bytes
  have hr := B.returns
  have ht : ∀ w ∈ wsA, w.before _ s = true := fun w h => atoms_spec (ws := (Cond.code y_Mo_way prog_11_method_35_code 2 (some .int) :: wsA)) B.pre w (List.mem_cons_of_mem _ h)
  have hown : s.vm.findClass "NetUnfolderModel" = some m.cls := findClass_of_methodNamed B.named
  have hlocks := B.notSynchronized
  subst hsz
  have hD := hD0.self (sz := s.heap.size)
  generalize hAe : va_A [(b0, .inr (9, [.int 0, .int 0, .ref b1, .ref b2, .int 0, .int 0, .ref b3, .ref b4, .ref b5, .ref b6, .int 0, .ref b7, .ref b8, .ref b9, .ref b10, .ref b11, .ref b12, .ref b13, .int 0, .int 0, .ref b14, .ref b15, .long 0, .int 0, .int 0, .ref b16, .int (-1), .ref b17]))] s.heap.size = A at hD ⊢
  have hA : ∀ q : Nat, s.heap.size ≤ q → A q := fun q h => by rw [← hAe]; exact Or.inr h
  have hS : va_S A s.heap s.heap [] := va_S.rf
  have hl := lv_entry ([.ref b0, .int k0]) (n := 2) (Nat.le_of_ble_eq_true rfl)
  rw [lg_entry_eq]
  generalize (lg_sl ([.ref b0, .int k0]) ++ List.replicate (2 - (lg_sl ([.ref b0, .int k0])).length) Slot.unset).toArray = ls at hl ⊢
  replace hl : lv_has ls 2 [(0, .ref b0), (1, .int k0)] := hl
  refine lv_aload_n hx hb d_Mo_way_0 rfl (lv_at hl 0 rfl) ?_
  refine lv_iconst (v := 0) hx hb d_Mo_way_1 (by decide) ?_
  refine va_put (D := (dC, dI)) (ci := 9) (v := .int 0) (ty := .int) (C := "NetUnfolderModel") (T := T_Mo) (N := 28) hx hb ht in_Mo ty_Mo ok_Mo nm_Mo hown hK hP hD hS 0 rfl rfl 0 (by decide) (ht _ wd_4_0) (fun _ h9 => h9) rfl (by decide +kernel) rfl rfl (Nat.le_of_ble_eq_true rfl) d_Mo_way_2 (fun H1 locs hPn hDn hSn => ?_)
  replace hP : va_P (dC, dI) clA [(b0, .inr (9, [.int 0, .int 0, .ref b1, .ref b2, .int 0, .int 0, .ref b3, .ref b4, .ref b5, .ref b6, .int 0, .ref b7, .ref b8, .ref b9, .ref b10, .ref b11, .ref b12, .ref b13, .int 0, .int 0, .ref b14, .ref b15, .long 0, .int 0, .int 0, .ref b16, .int (-1), .ref b17]))] H1 := hPn
  replace hD : va_D A [(b0, .inr (9, [.int 0, .int 0, .ref b1, .ref b2, .int 0, .int 0, .ref b3, .ref b4, .ref b5, .ref b6, .int 0, .ref b7, .ref b8, .ref b9, .ref b10, .ref b11, .ref b12, .ref b13, .int 0, .int 0, .ref b14, .ref b15, .long 0, .int 0, .int 0, .ref b16, .int (-1), .ref b17]))] := hDn
  replace hS := hSn
  clear hPn hDn hSn
  refine lv_iload_n hx hb d_Mo_way_5 rfl (lv_at hl 1 rfl) ?_
  refine lv_iconst (v := 0) hx hb d_Mo_way_6 (by decide) ?_
  refine lv_aload_n hx hb d_Mo_way_7 rfl (lv_at hl 0 rfl) ?_
  refine va_get (D := (dC, dI)) (ci := 9) (v := .int (-1)) (C := "NetUnfolderModel") (T := T_Mo) (N := 28) hx hb ht in_Mo hown hK hP 0 rfl rfl 26 (by decide) (ht _ wd_4_26) (fun _ h9 => h9) rfl d_Mo_way_8 ?_
  refine lv_iconst (v := 1) hx hb d_Mo_way_11 (by decide) ?_
  refine lv_isub hx hb d_Mo_way_12 ?_
  refine ci_i (y := (-2)) (by decide) ?_
  by_cases hc2 : k0 < 0
  · skip
    have hPc : va_P (dC, dI) clA [] _ := pu_P (H := H1)
    have hDc : va_D (fun _ => True) [] := pu_D
    have hFc := pu_free hS hA
    refine va_calli (va_runS (As := [.int k0, .int 0, .int (-2)]) (rest := []) ⟨hx, hb, hml, hown, ht⟩ (c_Mo_outside_0_m2_lo l dC dI cI cL cZ _ k0 hc2) (va_cwS 3 ht (good_S wd_4_94 wd_4_95 wd_1_10 wd_4_96) rfl rfl rfl (by decide +kernel) ⟨Nat.le_of_ble_eq_true rfl, Nat.le_of_ble_eq_true rfl⟩) ⟨fun a U g mk q => by obtain ⟨q0, q1, qP, qK, qD, qN⟩ := q; exact ⟨q0, q1, qP, va_K.moved (u := U) (U := U.calling g mk a) (Vm.Alike.refl U.vm) qK, qD, NwA.same (u := U) rfl qN⟩, fun U hU hW => ⟨rfl, by rw [hU], by rw [hU]; exact hPc, va_K.moved hW.alike hK, hDc.weaken (fun _ _ _ _ => trivial), NwA.warm hW hN⟩⟩ rfl rfl hl.1 rfl (lv_room (Nat.le_of_ble_eq_true rfl)) d_Mo_way_13 ⟨Nat.le_of_ble_eq_true rfl, Nat.le_of_ble_eq_true rfl⟩) hS (fun q _ h => hFc q h) hFc (fun r9 u t H3 locs ht9 hvm hw4 hB hz1 hk1 hSn => ?_)
    replace hP : va_P (dC, dI) clA [(b0, .inr (9, [.int 0, .int 0, .ref b1, .ref b2, .int 0, .int 0, .ref b3, .ref b4, .ref b5, .ref b6, .int 0, .ref b7, .ref b8, .ref b9, .ref b10, .ref b11, .ref b12, .ref b13, .int 0, .int 0, .ref b14, .ref b15, .long 0, .int 0, .int 0, .ref b16, .int (-1), .ref b17]))] H3 := pu_keep hP hk1
    replace hS := hSn
    clear hSn hPc hDc hFc hk1 hz1 ht9 hvm hB
    refine W.cs (cells' := 0) (slots' := 0) rfl rfl ?_
    subst hw4
    refine lv_if_eq (tgt := 23) hx hb d_Mo_way_16 (by decide) (fun h => absurd h (by decide)) (fun _ => ?_)
    refine lv_iconst (v := (-1)) hx hb d_Mo_way_19 (by decide) ?_
    refine lv_goto (tgt := 29) hx hb d_Mo_way_20 (by decide) ?_
    have hP9 := hP.sub (ws' := [(b0, .inr (9, [.int 0, .int 0, .ref b1, .ref b2, .int 0, .int 0, .ref b3, .ref b4, .ref b5, .ref b6, .int 0, .ref b7, .ref b8, .ref b9, .ref b10, .ref b11, .ref b12, .ref b13, .int 0, .int 0, .ref b14, .ref b15, .long 0, .int 0, .int 0, .ref b16, .int (-1), .ref b17]))]) [0] rfl
    have hD9 := hD.sub (ws' := [(b0, .inr (9, [.int 0, .int 0, .ref b1, .ref b2, .int 0, .int 0, .ref b3, .ref b4, .ref b5, .ref b6, .int 0, .ref b7, .ref b8, .ref b9, .ref b10, .ref b11, .ref b12, .ref b13, .int 0, .int 0, .ref b14, .ref b15, .long 0, .int 0, .int 0, .ref b16, .int (-1), .ref b17]))]) [0] (by decide) rfl
    exact W.iret (v := (-1)) hx hb hr (fun t ht9 hW => ⟨⟨(-1), (), rfl, rfl, by rw [ht9]; exact hP9, hD9⟩, hS.F ht9⟩) hS.2.2 d_Mo_way_29
  · skip
    have hPc : va_P (dC, dI) clA [] _ := pu_P (H := H1)
    have hDc : va_D (fun _ => True) [] := pu_D
    have hFc := pu_free hS hA
    refine va_calli (va_runS (As := [.int k0, .int 0, .int (-2)]) (rest := []) ⟨hx, hb, hml, hown, ht⟩ (c_Mo_outside_0_m2_hi l dC dI cI cL cZ _ k0 hc2 (gb_lt (k := -2) (by decide) (by have ehc2 := fa_nlt (k := 0) (by decide) hc2; omega))) (va_cwS 3 ht (good_S wd_4_94 wd_4_95 wd_1_10 wd_4_96) rfl rfl rfl (by decide +kernel) ⟨Nat.le_of_ble_eq_true rfl, Nat.le_of_ble_eq_true rfl⟩) ⟨fun a U g mk q => by obtain ⟨q0, q1, qP, qK, qD, qN⟩ := q; exact ⟨q0, q1, qP, va_K.moved (u := U) (U := U.calling g mk a) (Vm.Alike.refl U.vm) qK, qD, NwA.same (u := U) rfl qN⟩, fun U hU hW => ⟨rfl, by rw [hU], by rw [hU]; exact hPc, va_K.moved hW.alike hK, hDc.weaken (fun _ _ _ _ => trivial), NwA.warm hW hN⟩⟩ rfl rfl hl.1 rfl (lv_room (Nat.le_of_ble_eq_true rfl)) d_Mo_way_13 ⟨Nat.le_of_ble_eq_true rfl, Nat.le_of_ble_eq_true rfl⟩) hS (fun q _ h => hFc q h) hFc (fun r9 u t H5 locs ht9 hvm hw6 hB hz1 hk1 hSn => ?_)
    replace hP : va_P (dC, dI) clA [(b0, .inr (9, [.int 0, .int 0, .ref b1, .ref b2, .int 0, .int 0, .ref b3, .ref b4, .ref b5, .ref b6, .int 0, .ref b7, .ref b8, .ref b9, .ref b10, .ref b11, .ref b12, .ref b13, .int 0, .int 0, .ref b14, .ref b15, .long 0, .int 0, .int 0, .ref b16, .int (-1), .ref b17]))] H5 := pu_keep hP hk1
    replace hS := hSn
    clear hSn hPc hDc hFc hk1 hz1 ht9 hvm hB
    refine W.cs (cells' := 0) (slots' := 0) rfl rfl ?_
    subst hw6
    refine lv_if_eq (tgt := 23) hx hb d_Mo_way_16 (by decide) (fun h => absurd h (by decide)) (fun _ => ?_)
    refine lv_iconst (v := (-1)) hx hb d_Mo_way_19 (by decide) ?_
    refine lv_goto (tgt := 29) hx hb d_Mo_way_20 (by decide) ?_
    have hP9 := hP.sub (ws' := [(b0, .inr (9, [.int 0, .int 0, .ref b1, .ref b2, .int 0, .int 0, .ref b3, .ref b4, .ref b5, .ref b6, .int 0, .ref b7, .ref b8, .ref b9, .ref b10, .ref b11, .ref b12, .ref b13, .int 0, .int 0, .ref b14, .ref b15, .long 0, .int 0, .int 0, .ref b16, .int (-1), .ref b17]))]) [0] rfl
    have hD9 := hD.sub (ws' := [(b0, .inr (9, [.int 0, .int 0, .ref b1, .ref b2, .int 0, .int 0, .ref b3, .ref b4, .ref b5, .ref b6, .int 0, .ref b7, .ref b8, .ref b9, .ref b10, .ref b11, .ref b12, .ref b13, .int 0, .int 0, .ref b14, .ref b15, .long 0, .int 0, .int 0, .ref b16, .int (-1), .ref b17]))]) [0] (by decide) rfl
    exact W.iret (v := (-1)) hx hb hr (fun t ht9 hW => ⟨⟨(-1), (), rfl, rfl, by rw [ht9]; exact hP9, hD9⟩, hS.F ht9⟩) hS.2.2 d_Mo_way_29

set_option maxHeartbeats 4000000 in
set_option maxRecDepth 100000 in
theorem c_Mo_play_0 (l : Launch) (dC : Nat → ClassId) (dI : Nat → Nat → Nat) (cI cL cZ : ClassId) (sz : Nat) (b0 : Nat) (b1 : Nat) (b2 : Nat) (b3 : Nat) (b4 : Nat) (b5 : Nat) (b6 : Nat) (b7 : Nat) (b8 : Nat) (b9 : Nat) (b10 : Nat) (b11 : Nat) (b12 : Nat) (b13 : Nat) (b14 : Nat) (b15 : Nat) (b16 : Nat) (b17 : Nat) (k0 : Int32) (h1 : k0 < 0) : Met l y_Mo_play (Cond.code y_Mo_play prog_11_method_36_code 4 (some .int) :: wsA) { frames := 1, cells := 0, slots := 0, locals := 21 } (va_Pc [.ref b0, .int k0] (fun U => U.heap.size = sz ∧ va_P (dC, dI) clA [(b0, .inr (9, [.int 0, .int 0, .ref b1, .ref b2, .int 0, .int 0, .ref b3, .ref b4, .ref b5, .ref b6, .int 0, .ref b7, .ref b8, .ref b9, .ref b10, .ref b11, .ref b12, .ref b13, .int 0, .int 0, .ref b14, .ref b15, .long 0, .int 0, .int 0, .ref b16, .int (-1), .ref b17]))] U.heap ∧ va_K (dC, dI) clA [(cI, .int), (cL, .long), (cZ, .boolean)] U ∧ va_D (fun _ => True) [(b0, .inr (9, [.int 0, .int 0, .ref b1, .ref b2, .int 0, .int 0, .ref b3, .ref b4, .ref b5, .ref b6, .int 0, .ref b7, .ref b8, .ref b9, .ref b10, .ref b11, .ref b12, .ref b13, .int 0, .int 0, .ref b14, .ref b15, .long 0, .int 0, .int 0, .ref b16, .int (-1), .ref b17]))] ∧ NwA U)) (va_Qi (fun r (_ : Unit) => r = 0) (fun _ t => va_P (dC, dI) clA [(b0, .inr (9, [.int 1, .int 0, .ref b1, .ref b2, .int 0, .int 0, .ref b3, .ref b4, .ref b5, .ref b6, .int 0, .ref b7, .ref b8, .ref b9, .ref b10, .ref b11, .ref b12, .ref b13, .int 0, .int 0, .ref b14, .ref b15, .long 0, .int 0, .int 0, .ref b16, .int (-1), .ref b17]))] t.heap ∧ va_D (va_A [(b0, .inr (9, [.int 0, .int 0, .ref b1, .ref b2, .int 0, .int 0, .ref b3, .ref b4, .ref b5, .ref b6, .int 0, .ref b7, .ref b8, .ref b9, .ref b10, .ref b11, .ref b12, .ref b13, .int 0, .int 0, .ref b14, .ref b15, .long 0, .int 0, .int 0, .ref b16, .int (-1), .ref b17]))] sz) [(b0, .inr (9, [.int 1, .int 0, .ref b1, .ref b2, .int 0, .int 0, .ref b3, .ref b4, .ref b5, .ref b6, .int 0, .ref b7, .ref b8, .ref b9, .ref b10, .ref b11, .ref b12, .ref b13, .int 0, .int 0, .ref b14, .ref b15, .long 0, .int 0, .int 0, .ref b16, .int (-1), .ref b17]))]) (va_A [(b0, .inr (9, [.int 0, .int 0, .ref b1, .ref b2, .int 0, .int 0, .ref b3, .ref b4, .ref b5, .ref b6, .int 0, .ref b7, .ref b8, .ref b9, .ref b10, .ref b11, .ref b12, .ref b13, .int 0, .int 0, .ref b14, .ref b15, .long 0, .int 0, .int 0, .ref b16, .int (-1), .ref b17]))] sz)) 0 0 (va_A [(b0, .inr (9, [.int 0, .int 0, .ref b1, .ref b2, .int 0, .int 0, .ref b3, .ref b4, .ref b5, .ref b6, .int 0, .ref b7, .ref b8, .ref b9, .ref b10, .ref b11, .ref b12, .ref b13, .int 0, .int 0, .ref b14, .ref b15, .long 0, .int 0, .int 0, .ref b16, .int (-1), .ref b17]))] sz) := by
  refine Met.ofW (cc := prog_11_method_36_code) (maxL := 4) (ret := (some .int)) (by decide) rfl ?_
  intro p e s m args below meth c s₁ B hml hv
  obtain ⟨rfl, hsz, hP, hK, hD0, hN⟩ := hv
  have hx := B.exec
  have hb := B.bytes
  have hr := B.returns
  have ht : ∀ w ∈ wsA, w.before _ s = true := fun w h => atoms_spec (ws := (Cond.code y_Mo_play prog_11_method_36_code 4 (some .int) :: wsA)) B.pre w (List.mem_cons_of_mem _ h)
  have hown : s.vm.findClass "NetUnfolderModel" = some m.cls := findClass_of_methodNamed B.named
  have hlocks := B.notSynchronized
  subst hsz
  have hD := hD0.self (sz := s.heap.size)
  generalize hAe : va_A [(b0, .inr (9, [.int 0, .int 0, .ref b1, .ref b2, .int 0, .int 0, .ref b3, .ref b4, .ref b5, .ref b6, .int 0, .ref b7, .ref b8, .ref b9, .ref b10, .ref b11, .ref b12, .ref b13, .int 0, .int 0, .ref b14, .ref b15, .long 0, .int 0, .int 0, .ref b16, .int (-1), .ref b17]))] s.heap.size = A at hD ⊢
  have hA : ∀ q : Nat, s.heap.size ≤ q → A q := fun q h => by rw [← hAe]; exact Or.inr h
  have hS : va_S A s.heap s.heap [] := va_S.rf
  have hl := lv_entry ([.ref b0, .int k0]) (n := 4) (Nat.le_of_ble_eq_true rfl)
  rw [lg_entry_eq]
  generalize (lg_sl ([.ref b0, .int k0]) ++ List.replicate (4 - (lg_sl ([.ref b0, .int k0])).length) Slot.unset).toArray = ls at hl ⊢
  replace hl : lv_has ls 4 [(0, .ref b0), (1, .int k0)] := hl
  refine lv_iload_n hx hb d_Mo_play_0 rfl (lv_at hl 1 rfl) ?_
  refine lv_if_lt (tgt := 20) hx hb d_Mo_play_1 (by decide) (fun _ => ?_) (fun h9 => (by exfalso; have eh1 := fa_lt (k := 0) (by decide) h1; have eh9 := fa_nlt (k := 0) (by decide) h9; omega))
  refine lv_aload_n hx hb d_Mo_play_20 rfl (lv_at hl 0 rfl) ?_
  refine lv_iconst (v := 1) hx hb d_Mo_play_21 (by decide) ?_
  have hPc := hP.sub (ws' := [(b0, .inr (9, [.int 0, .int 0, .ref b1, .ref b2, .int 0, .int 0, .ref b3, .ref b4, .ref b5, .ref b6, .int 0, .ref b7, .ref b8, .ref b9, .ref b10, .ref b11, .ref b12, .ref b13, .int 0, .int 0, .ref b14, .ref b15, .long 0, .int 0, .int 0, .ref b16, .int (-1), .ref b17]))]) [0] rfl
  have hDc := hD.sub (ws' := [(b0, .inr (9, [.int 0, .int 0, .ref b1, .ref b2, .int 0, .int 0, .ref b3, .ref b4, .ref b5, .ref b6, .int 0, .ref b7, .ref b8, .ref b9, .ref b10, .ref b11, .ref b12, .ref b13, .int 0, .int 0, .ref b14, .ref b15, .long 0, .int 0, .int 0, .ref b16, .int (-1), .ref b17]))]) [0] (by decide) rfl
  have hFc := va_free (wc := [(b0, .inr (9, [.int 0, .int 0, .ref b1, .ref b2, .int 0, .int 0, .ref b3, .ref b4, .ref b5, .ref b6, .int 0, .ref b7, .ref b8, .ref b9, .ref b10, .ref b11, .ref b12, .ref b13, .int 0, .int 0, .ref b14, .ref b15, .long 0, .int 0, .int 0, .ref b16, .int (-1), .ref b17]))]) hD hS hA [0] rfl
  refine va_calli (va_runV (C := "NetUnfolderModel") (As := [.int 1]) (rest := []) ⟨hx, hb, hml, hown, ht⟩ (c_Mo_refuse l dC dI cI cL cZ _ b0 0 0 b1 b2 0 0 b3 b4 b5 b6 0 b7 b8 b9 b10 b11 b12 b13 0 0 b14 b15 0 0 0 b16 (-1) b17 1 ) (cwV 1 ht (good_V wd_4_220 wd_4_222 ws_Mo_refuse wd_1_10 wd_4_223) rfl rfl rfl (by decide +kernel) ⟨Nat.le_of_ble_eq_true rfl, Nat.le_of_ble_eq_true rfl⟩) ⟨fun a U g mk q => by obtain ⟨q0, q1, qP, qK, qD, qN⟩ := q; exact ⟨q0, q1, qP, va_K.moved (u := U) (U := U.calling g mk a) (Vm.Alike.refl U.vm) qK, qD, NwA.same (u := U) rfl qN⟩, (va_recv (q0 := 0) (ci := 9) hK hP rfl rfl), fun U hU hW => ⟨rfl, by rw [hU], by rw [hU]; exact hPc, va_K.moved hW.alike hK, hDc.weaken (fun _ _ _ _ => trivial), NwA.warm hW hN⟩⟩ rfl rfl hl.1 rfl (lv_room (Nat.le_of_ble_eq_true rfl)) d_Mo_play_22 ⟨Nat.le_of_ble_eq_true rfl, Nat.le_of_ble_eq_true rfl⟩) hS (fun q _ h => hFc q h) hFc (fun r9 u t H1 locs ht9 hvm hw2 hB hz1 hk1 hSn => ?_)
  obtain ⟨hP1, hD1⟩ := hB
  rw [ht9] at hP1
  obtain ⟨hPn, hDn⟩ := va_join (wr := []) (w1 := [(b0, .inr (9, [.int 1, .int 0, .ref b1, .ref b2, .int 0, .int 0, .ref b3, .ref b4, .ref b5, .ref b6, .int 0, .ref b7, .ref b8, .ref b9, .ref b10, .ref b11, .ref b12, .ref b13, .int 0, .int 0, .ref b14, .ref b15, .long 0, .int 0, .int 0, .ref b16, .int (-1), .ref b17]))]) hP hD [0] [] rfl rfl (by decide) (by decide) hk1 hFc hP1 hD1
  replace hP : va_P (dC, dI) clA [(b0, .inr (9, [.int 1, .int 0, .ref b1, .ref b2, .int 0, .int 0, .ref b3, .ref b4, .ref b5, .ref b6, .int 0, .ref b7, .ref b8, .ref b9, .ref b10, .ref b11, .ref b12, .ref b13, .int 0, .int 0, .ref b14, .ref b15, .long 0, .int 0, .int 0, .ref b16, .int (-1), .ref b17]))] H1 := hPn
  replace hD : va_D A [(b0, .inr (9, [.int 1, .int 0, .ref b1, .ref b2, .int 0, .int 0, .ref b3, .ref b4, .ref b5, .ref b6, .int 0, .ref b7, .ref b8, .ref b9, .ref b10, .ref b11, .ref b12, .ref b13, .int 0, .int 0, .ref b14, .ref b15, .long 0, .int 0, .int 0, .ref b16, .int (-1), .ref b17]))] := hDn
  replace hS := hSn
  clear hPn hDn hSn
  clear hPc hDc hFc hP1 hD1 hk1 hz1 ht9 hvm
  refine W.cs (cells' := 0) (slots' := 0) rfl rfl ?_
  subst hw2
  have hP9 := hP.sub (ws' := [(b0, .inr (9, [.int 1, .int 0, .ref b1, .ref b2, .int 0, .int 0, .ref b3, .ref b4, .ref b5, .ref b6, .int 0, .ref b7, .ref b8, .ref b9, .ref b10, .ref b11, .ref b12, .ref b13, .int 0, .int 0, .ref b14, .ref b15, .long 0, .int 0, .int 0, .ref b16, .int (-1), .ref b17]))]) [0] rfl
  have hD9 := hD.sub (ws' := [(b0, .inr (9, [.int 1, .int 0, .ref b1, .ref b2, .int 0, .int 0, .ref b3, .ref b4, .ref b5, .ref b6, .int 0, .ref b7, .ref b8, .ref b9, .ref b10, .ref b11, .ref b12, .ref b13, .int 0, .int 0, .ref b14, .ref b15, .long 0, .int 0, .int 0, .ref b16, .int (-1), .ref b17]))]) [0] (by decide) rfl
  exact W.iret (v := 0) hx hb hr (fun t ht9 hW => ⟨⟨0, (), rfl, rfl, by rw [ht9]; exact hP9, hD9⟩, hS.F ht9⟩) hS.2.2 d_Mo_play_25

set_option maxHeartbeats 4000000 in
set_option maxRecDepth 100000 in
theorem c_Mo_play_1 (l : Launch) (dC : Nat → ClassId) (dI : Nat → Nat → Nat) (cI cL cZ : ClassId) (sz : Nat) (b0 : Nat) (b1 : Nat) (b2 : Nat) (b3 : Nat) (b4 : Nat) (b5 : Nat) (b6 : Nat) (b7 : Nat) (b8 : Nat) (b9 : Nat) (b10 : Nat) (b11 : Nat) (b12 : Nat) (b13 : Nat) (b14 : Nat) (b15 : Nat) (b16 : Nat) (b17 : Nat) (k0 : Int32) (h1 : ¬ k0 < 0) : Met l y_Mo_play (Cond.code y_Mo_play prog_11_method_36_code 4 (some .int) :: wsA) { frames := 1, cells := 0, slots := 0, locals := 21 } (va_Pc [.ref b0, .int k0] (fun U => U.heap.size = sz ∧ va_P (dC, dI) clA [(b0, .inr (9, [.int 0, .int 0, .ref b1, .ref b2, .int 0, .int 0, .ref b3, .ref b4, .ref b5, .ref b6, .int 0, .ref b7, .ref b8, .ref b9, .ref b10, .ref b11, .ref b12, .ref b13, .int 0, .int 0, .ref b14, .ref b15, .long 0, .int 0, .int 0, .ref b16, .int (-1), .ref b17]))] U.heap ∧ va_K (dC, dI) clA [(cI, .int), (cL, .long), (cZ, .boolean)] U ∧ va_D (fun _ => True) [(b0, .inr (9, [.int 0, .int 0, .ref b1, .ref b2, .int 0, .int 0, .ref b3, .ref b4, .ref b5, .ref b6, .int 0, .ref b7, .ref b8, .ref b9, .ref b10, .ref b11, .ref b12, .ref b13, .int 0, .int 0, .ref b14, .ref b15, .long 0, .int 0, .int 0, .ref b16, .int (-1), .ref b17]))] ∧ NwA U)) (va_Qi (fun r (_ : Unit) => r = 0) (fun _ t => va_P (dC, dI) clA [(b0, .inr (9, [.int 2, .int 0, .ref b1, .ref b2, .int 0, .int 0, .ref b3, .ref b4, .ref b5, .ref b6, .int 0, .ref b7, .ref b8, .ref b9, .ref b10, .ref b11, .ref b12, .ref b13, .int 0, .int 0, .ref b14, .ref b15, .long 0, .int 0, .int 0, .ref b16, .int (-1), .ref b17]))] t.heap ∧ va_D (va_A [(b0, .inr (9, [.int 0, .int 0, .ref b1, .ref b2, .int 0, .int 0, .ref b3, .ref b4, .ref b5, .ref b6, .int 0, .ref b7, .ref b8, .ref b9, .ref b10, .ref b11, .ref b12, .ref b13, .int 0, .int 0, .ref b14, .ref b15, .long 0, .int 0, .int 0, .ref b16, .int (-1), .ref b17]))] sz) [(b0, .inr (9, [.int 2, .int 0, .ref b1, .ref b2, .int 0, .int 0, .ref b3, .ref b4, .ref b5, .ref b6, .int 0, .ref b7, .ref b8, .ref b9, .ref b10, .ref b11, .ref b12, .ref b13, .int 0, .int 0, .ref b14, .ref b15, .long 0, .int 0, .int 0, .ref b16, .int (-1), .ref b17]))]) (va_A [(b0, .inr (9, [.int 0, .int 0, .ref b1, .ref b2, .int 0, .int 0, .ref b3, .ref b4, .ref b5, .ref b6, .int 0, .ref b7, .ref b8, .ref b9, .ref b10, .ref b11, .ref b12, .ref b13, .int 0, .int 0, .ref b14, .ref b15, .long 0, .int 0, .int 0, .ref b16, .int (-1), .ref b17]))] sz)) 0 0 (va_A [(b0, .inr (9, [.int 0, .int 0, .ref b1, .ref b2, .int 0, .int 0, .ref b3, .ref b4, .ref b5, .ref b6, .int 0, .ref b7, .ref b8, .ref b9, .ref b10, .ref b11, .ref b12, .ref b13, .int 0, .int 0, .ref b14, .ref b15, .long 0, .int 0, .int 0, .ref b16, .int (-1), .ref b17]))] sz) := by
  refine Met.ofW (cc := prog_11_method_36_code) (maxL := 4) (ret := (some .int)) (by decide) rfl ?_
  intro p e s m args below meth c s₁ B hml hv
  obtain ⟨rfl, hsz, hP, hK, hD0, hN⟩ := hv
  have hx := B.exec
  have hb := B.bytes
  have hr := B.returns
  have ht : ∀ w ∈ wsA, w.before _ s = true := fun w h => atoms_spec (ws := (Cond.code y_Mo_play prog_11_method_36_code 4 (some .int) :: wsA)) B.pre w (List.mem_cons_of_mem _ h)
  have hown : s.vm.findClass "NetUnfolderModel" = some m.cls := findClass_of_methodNamed B.named
  have hlocks := B.notSynchronized
  subst hsz
  have hD := hD0.self (sz := s.heap.size)
  generalize hAe : va_A [(b0, .inr (9, [.int 0, .int 0, .ref b1, .ref b2, .int 0, .int 0, .ref b3, .ref b4, .ref b5, .ref b6, .int 0, .ref b7, .ref b8, .ref b9, .ref b10, .ref b11, .ref b12, .ref b13, .int 0, .int 0, .ref b14, .ref b15, .long 0, .int 0, .int 0, .ref b16, .int (-1), .ref b17]))] s.heap.size = A at hD ⊢
  have hA : ∀ q : Nat, s.heap.size ≤ q → A q := fun q h => by rw [← hAe]; exact Or.inr h
  have hS : va_S A s.heap s.heap [] := va_S.rf
  have hl := lv_entry ([.ref b0, .int k0]) (n := 4) (Nat.le_of_ble_eq_true rfl)
  rw [lg_entry_eq]
  generalize (lg_sl ([.ref b0, .int k0]) ++ List.replicate (4 - (lg_sl ([.ref b0, .int k0])).length) Slot.unset).toArray = ls at hl ⊢
  replace hl : lv_has ls 4 [(0, .ref b0), (1, .int k0)] := hl
  refine lv_iload_n hx hb d_Mo_play_0 rfl (lv_at hl 1 rfl) ?_
  refine lv_if_lt (tgt := 20) hx hb d_Mo_play_1 (by decide) (fun h9 => (by exfalso; have eh1 := fa_nlt (k := 0) (by decide) h1; have eh9 := fa_lt (k := 0) (by decide) h9; omega)) (fun _ => ?_)
  refine lv_aload_n hx hb d_Mo_play_4 rfl (lv_at hl 0 rfl) ?_
  refine va_get (D := (dC, dI)) (ci := 9) (v := .int (-1)) (C := "NetUnfolderModel") (T := T_Mo) (N := 28) hx hb ht in_Mo hown hK hP 0 rfl rfl 26 (by decide) (ht _ wd_4_26) (fun _ h9 => h9) rfl d_Mo_play_5 ?_
  refine lv_iconst (v := (-1)) hx hb d_Mo_play_8 (by decide) ?_
  refine lv_icmp_eq (tgt := 26) hx hb d_Mo_play_9 (by decide) (fun _ => ?_) (fun h => (h (by decide)).elim)
  refine lv_aload_n hx hb d_Mo_play_26 rfl (lv_at hl 0 rfl) ?_
  refine va_get (D := (dC, dI)) (ci := 9) (v := .int (-1)) (C := "NetUnfolderModel") (T := T_Mo) (N := 28) hx hb ht in_Mo hown hK hP 0 rfl rfl 26 (by decide) (ht _ wd_4_26) (fun _ h9 => h9) rfl d_Mo_play_27 ?_
  refine lv_iconst (v := (-1)) hx hb d_Mo_play_30 (by decide) ?_
  refine lv_icmp_ne (tgt := 40) hx hb d_Mo_play_31 (by decide) (fun h => (h (by decide)).elim) (fun _ => ?_)
  refine lv_aload_n hx hb d_Mo_play_34 rfl (lv_at hl 0 rfl) ?_
  refine lv_iconst (v := 2) hx hb d_Mo_play_35 (by decide) ?_
  have hPc := hP.sub (ws' := [(b0, .inr (9, [.int 0, .int 0, .ref b1, .ref b2, .int 0, .int 0, .ref b3, .ref b4, .ref b5, .ref b6, .int 0, .ref b7, .ref b8, .ref b9, .ref b10, .ref b11, .ref b12, .ref b13, .int 0, .int 0, .ref b14, .ref b15, .long 0, .int 0, .int 0, .ref b16, .int (-1), .ref b17]))]) [0] rfl
  have hDc := hD.sub (ws' := [(b0, .inr (9, [.int 0, .int 0, .ref b1, .ref b2, .int 0, .int 0, .ref b3, .ref b4, .ref b5, .ref b6, .int 0, .ref b7, .ref b8, .ref b9, .ref b10, .ref b11, .ref b12, .ref b13, .int 0, .int 0, .ref b14, .ref b15, .long 0, .int 0, .int 0, .ref b16, .int (-1), .ref b17]))]) [0] (by decide) rfl
  have hFc := va_free (wc := [(b0, .inr (9, [.int 0, .int 0, .ref b1, .ref b2, .int 0, .int 0, .ref b3, .ref b4, .ref b5, .ref b6, .int 0, .ref b7, .ref b8, .ref b9, .ref b10, .ref b11, .ref b12, .ref b13, .int 0, .int 0, .ref b14, .ref b15, .long 0, .int 0, .int 0, .ref b16, .int (-1), .ref b17]))]) hD hS hA [0] rfl
  refine va_calli (va_runV (C := "NetUnfolderModel") (As := [.int 2]) (rest := []) ⟨hx, hb, hml, hown, ht⟩ (c_Mo_refuse l dC dI cI cL cZ _ b0 0 0 b1 b2 0 0 b3 b4 b5 b6 0 b7 b8 b9 b10 b11 b12 b13 0 0 b14 b15 0 0 0 b16 (-1) b17 2 ) (cwV 1 ht (good_V wd_4_220 wd_4_222 ws_Mo_refuse wd_1_10 wd_4_223) rfl rfl rfl (by decide +kernel) ⟨Nat.le_of_ble_eq_true rfl, Nat.le_of_ble_eq_true rfl⟩) ⟨fun a U g mk q => by obtain ⟨q0, q1, qP, qK, qD, qN⟩ := q; exact ⟨q0, q1, qP, va_K.moved (u := U) (U := U.calling g mk a) (Vm.Alike.refl U.vm) qK, qD, NwA.same (u := U) rfl qN⟩, (va_recv (q0 := 0) (ci := 9) hK hP rfl rfl), fun U hU hW => ⟨rfl, by rw [hU], by rw [hU]; exact hPc, va_K.moved hW.alike hK, hDc.weaken (fun _ _ _ _ => trivial), NwA.warm hW hN⟩⟩ rfl rfl hl.1 rfl (lv_room (Nat.le_of_ble_eq_true rfl)) d_Mo_play_36 ⟨Nat.le_of_ble_eq_true rfl, Nat.le_of_ble_eq_true rfl⟩) hS (fun q _ h => hFc q h) hFc (fun r9 u t H1 locs ht9 hvm hw2 hB hz1 hk1 hSn => ?_)
  obtain ⟨hP1, hD1⟩ := hB
  rw [ht9] at hP1
  obtain ⟨hPn, hDn⟩ := va_join (wr := []) (w1 := [(b0, .inr (9, [.int 2, .int 0, .ref b1, .ref b2, .int 0, .int 0, .ref b3, .ref b4, .ref b5, .ref b6, .int 0, .ref b7, .ref b8, .ref b9, .ref b10, .ref b11, .ref b12, .ref b13, .int 0, .int 0, .ref b14, .ref b15, .long 0, .int 0, .int 0, .ref b16, .int (-1), .ref b17]))]) hP hD [0] [] rfl rfl (by decide) (by decide) hk1 hFc hP1 hD1
  replace hP : va_P (dC, dI) clA [(b0, .inr (9, [.int 2, .int 0, .ref b1, .ref b2, .int 0, .int 0, .ref b3, .ref b4, .ref b5, .ref b6, .int 0, .ref b7, .ref b8, .ref b9, .ref b10, .ref b11, .ref b12, .ref b13, .int 0, .int 0, .ref b14, .ref b15, .long 0, .int 0, .int 0, .ref b16, .int (-1), .ref b17]))] H1 := hPn
  replace hD : va_D A [(b0, .inr (9, [.int 2, .int 0, .ref b1, .ref b2, .int 0, .int 0, .ref b3, .ref b4, .ref b5, .ref b6, .int 0, .ref b7, .ref b8, .ref b9, .ref b10, .ref b11, .ref b12, .ref b13, .int 0, .int 0, .ref b14, .ref b15, .long 0, .int 0, .int 0, .ref b16, .int (-1), .ref b17]))] := hDn
  replace hS := hSn
  clear hPn hDn hSn
  clear hPc hDc hFc hP1 hD1 hk1 hz1 ht9 hvm
  refine W.cs (cells' := 0) (slots' := 0) rfl rfl ?_
  subst hw2
  have hP9 := hP.sub (ws' := [(b0, .inr (9, [.int 2, .int 0, .ref b1, .ref b2, .int 0, .int 0, .ref b3, .ref b4, .ref b5, .ref b6, .int 0, .ref b7, .ref b8, .ref b9, .ref b10, .ref b11, .ref b12, .ref b13, .int 0, .int 0, .ref b14, .ref b15, .long 0, .int 0, .int 0, .ref b16, .int (-1), .ref b17]))]) [0] rfl
  have hD9 := hD.sub (ws' := [(b0, .inr (9, [.int 2, .int 0, .ref b1, .ref b2, .int 0, .int 0, .ref b3, .ref b4, .ref b5, .ref b6, .int 0, .ref b7, .ref b8, .ref b9, .ref b10, .ref b11, .ref b12, .ref b13, .int 0, .int 0, .ref b14, .ref b15, .long 0, .int 0, .int 0, .ref b16, .int (-1), .ref b17]))]) [0] (by decide) rfl
  exact W.iret (v := 0) hx hb hr (fun t ht9 hW => ⟨⟨0, (), rfl, rfl, by rw [ht9]; exact hP9, hD9⟩, hS.F ht9⟩) hS.2.2 d_Mo_play_39

set_option maxHeartbeats 4000000 in
set_option maxRecDepth 100000 in
theorem c_Mo_count_0 (l : Launch) (dC : Nat → ClassId) (dI : Nat → Nat → Nat) (cI cL cZ : ClassId) (sz : Nat) (b0 : Nat) (b1 : Nat) (b2 : Nat) (b3 : Nat) (b4 : Nat) (b5 : Nat) (b6 : Nat) (b7 : Nat) (b8 : Nat) (b9 : Nat) (b10 : Nat) (b11 : Nat) (b12 : Nat) (b13 : Nat) (b14 : Nat) (b15 : Nat) (b16 : Nat) (b17 : Nat) (k0 : Int32) (h1 : k0 = 0) : Met l y_Mo_count (Cond.code y_Mo_count prog_11_method_37_code 4 (some .int) :: wsA) { frames := 0, cells := 0, slots := 0, locals := 0 } (va_Pc [.ref b0, .int k0] (fun U => U.heap.size = sz ∧ va_P (dC, dI) clA [(b0, .inr (9, [.int 0, .int 0, .ref b1, .ref b2, .int 0, .int 0, .ref b3, .ref b4, .ref b5, .ref b6, .int 0, .ref b7, .ref b8, .ref b9, .ref b10, .ref b11, .ref b12, .ref b13, .int 0, .int 0, .ref b14, .ref b15, .long 0, .int 0, .int 0, .ref b16, .int (-1), .ref b17]))] U.heap ∧ va_K (dC, dI) clA [(cI, .int), (cL, .long), (cZ, .boolean)] U ∧ va_D (fun _ => True) [(b0, .inr (9, [.int 0, .int 0, .ref b1, .ref b2, .int 0, .int 0, .ref b3, .ref b4, .ref b5, .ref b6, .int 0, .ref b7, .ref b8, .ref b9, .ref b10, .ref b11, .ref b12, .ref b13, .int 0, .int 0, .ref b14, .ref b15, .long 0, .int 0, .int 0, .ref b16, .int (-1), .ref b17]))] ∧ NwA U)) (va_Qi (fun r (_ : Unit) => r = 0) (fun _ t => va_P (dC, dI) clA [(b0, .inr (9, [.int 0, .int 0, .ref b1, .ref b2, .int 0, .int 0, .ref b3, .ref b4, .ref b5, .ref b6, .int 0, .ref b7, .ref b8, .ref b9, .ref b10, .ref b11, .ref b12, .ref b13, .int 0, .int 0, .ref b14, .ref b15, .long 0, .int 0, .int 0, .ref b16, .int (-1), .ref b17]))] t.heap ∧ va_D (va_A [(b0, .inr (9, [.int 0, .int 0, .ref b1, .ref b2, .int 0, .int 0, .ref b3, .ref b4, .ref b5, .ref b6, .int 0, .ref b7, .ref b8, .ref b9, .ref b10, .ref b11, .ref b12, .ref b13, .int 0, .int 0, .ref b14, .ref b15, .long 0, .int 0, .int 0, .ref b16, .int (-1), .ref b17]))] sz) [(b0, .inr (9, [.int 0, .int 0, .ref b1, .ref b2, .int 0, .int 0, .ref b3, .ref b4, .ref b5, .ref b6, .int 0, .ref b7, .ref b8, .ref b9, .ref b10, .ref b11, .ref b12, .ref b13, .int 0, .int 0, .ref b14, .ref b15, .long 0, .int 0, .int 0, .ref b16, .int (-1), .ref b17]))]) (va_A [(b0, .inr (9, [.int 0, .int 0, .ref b1, .ref b2, .int 0, .int 0, .ref b3, .ref b4, .ref b5, .ref b6, .int 0, .ref b7, .ref b8, .ref b9, .ref b10, .ref b11, .ref b12, .ref b13, .int 0, .int 0, .ref b14, .ref b15, .long 0, .int 0, .int 0, .ref b16, .int (-1), .ref b17]))] sz)) 0 0 (va_A [(b0, .inr (9, [.int 0, .int 0, .ref b1, .ref b2, .int 0, .int 0, .ref b3, .ref b4, .ref b5, .ref b6, .int 0, .ref b7, .ref b8, .ref b9, .ref b10, .ref b11, .ref b12, .ref b13, .int 0, .int 0, .ref b14, .ref b15, .long 0, .int 0, .int 0, .ref b16, .int (-1), .ref b17]))] sz) := by
  refine Met.ofW (cc := prog_11_method_37_code) (maxL := 4) (ret := (some .int)) (by decide) rfl ?_
  intro p e s m args below meth c s₁ B hml hv
  obtain ⟨rfl, hsz, hP, hK, hD0, hN⟩ := hv
  have hx := B.exec
  have hb := B.bytes
  have hr := B.returns
  have ht : ∀ w ∈ wsA, w.before _ s = true := fun w h => atoms_spec (ws := (Cond.code y_Mo_count prog_11_method_37_code 4 (some .int) :: wsA)) B.pre w (List.mem_cons_of_mem _ h)
  have hown : s.vm.findClass "NetUnfolderModel" = some m.cls := findClass_of_methodNamed B.named
  have hlocks := B.notSynchronized
  subst hsz
  have hD := hD0.self (sz := s.heap.size)
  generalize hAe : va_A [(b0, .inr (9, [.int 0, .int 0, .ref b1, .ref b2, .int 0, .int 0, .ref b3, .ref b4, .ref b5, .ref b6, .int 0, .ref b7, .ref b8, .ref b9, .ref b10, .ref b11, .ref b12, .ref b13, .int 0, .int 0, .ref b14, .ref b15, .long 0, .int 0, .int 0, .ref b16, .int (-1), .ref b17]))] s.heap.size = A at hD ⊢
  have hA : ∀ q : Nat, s.heap.size ≤ q → A q := fun q h => by rw [← hAe]; exact Or.inr h
  have hS : va_S A s.heap s.heap [] := va_S.rf
  have hl := lv_entry ([.ref b0, .int k0]) (n := 4) (Nat.le_of_ble_eq_true rfl)
  rw [lg_entry_eq]
  generalize (lg_sl ([.ref b0, .int k0]) ++ List.replicate (4 - (lg_sl ([.ref b0, .int k0])).length) Slot.unset).toArray = ls at hl ⊢
  replace hl : lv_has ls 4 [(0, .ref b0), (1, .int k0)] := hl
  refine lv_aload_n hx hb d_Mo_count_0 rfl (lv_at hl 0 rfl) ?_
  refine lv_iconst (v := 0) hx hb d_Mo_count_1 (by decide) ?_
  refine va_put (D := (dC, dI)) (ci := 9) (v := .int 0) (ty := .int) (C := "NetUnfolderModel") (T := T_Mo) (N := 28) hx hb ht in_Mo ty_Mo ok_Mo nm_Mo hown hK hP hD hS 0 rfl rfl 0 (by decide) (ht _ wd_4_0) (fun _ h9 => h9) rfl (by decide +kernel) rfl rfl (Nat.le_of_ble_eq_true rfl) d_Mo_count_2 (fun H1 locs hPn hDn hSn => ?_)
  replace hP : va_P (dC, dI) clA [(b0, .inr (9, [.int 0, .int 0, .ref b1, .ref b2, .int 0, .int 0, .ref b3, .ref b4, .ref b5, .ref b6, .int 0, .ref b7, .ref b8, .ref b9, .ref b10, .ref b11, .ref b12, .ref b13, .int 0, .int 0, .ref b14, .ref b15, .long 0, .int 0, .int 0, .ref b16, .int (-1), .ref b17]))] H1 := hPn
  replace hD : va_D A [(b0, .inr (9, [.int 0, .int 0, .ref b1, .ref b2, .int 0, .int 0, .ref b3, .ref b4, .ref b5, .ref b6, .int 0, .ref b7, .ref b8, .ref b9, .ref b10, .ref b11, .ref b12, .ref b13, .int 0, .int 0, .ref b14, .ref b15, .long 0, .int 0, .int 0, .ref b16, .int (-1), .ref b17]))] := hDn
  replace hS := hSn
  clear hPn hDn hSn
  refine lv_iconst (v := 0) hx hb d_Mo_count_5 (by decide) ?_
  refine lv_istore_n (lv' := [(2, .int 0), (0, .ref b0), (1, .int k0)]) hx hb d_Mo_count_6 rfl hl (by decide) rfl (fun ls hln => ?_)
  replace hl : lv_has ls 4 [(2, .int 0), (0, .ref b0), (1, .int k0)] := hln
  clear hln
  refine lv_iconst (v := 0) hx hb d_Mo_count_7 (by decide) ?_
  refine lv_istore_n (lv' := [(3, .int 0), (2, .int 0), (0, .ref b0), (1, .int k0)]) hx hb d_Mo_count_8 rfl hl (by decide) rfl (fun ls hln => ?_)
  replace hl : lv_has ls 4 [(3, .int 0), (2, .int 0), (0, .ref b0), (1, .int k0)] := hln
  clear hln
  refine lv_iload_n hx hb d_Mo_count_9 rfl (lv_at hl 0 rfl) ?_
  refine lv_aload_n hx hb d_Mo_count_10 rfl (lv_at hl 2 rfl) ?_
  refine va_get (D := (dC, dI)) (ci := 9) (v := .int 0) (C := "NetUnfolderModel") (T := T_Mo) (N := 28) hx hb ht in_Mo hown hK hP 0 rfl rfl 10 (by decide) (ht _ wd_4_10) (fun _ h9 => h9) rfl d_Mo_count_11 ?_
  refine lv_icmp_ge (tgt := 40) hx hb d_Mo_count_14 (by decide) (fun _ => ?_) (fun h => (h (by decide)).elim)
  refine lv_iload_n hx hb d_Mo_count_40 rfl (lv_at hl 3 rfl) ?_
  refine lv_if_ne (tgt := 51) hx hb d_Mo_count_41 (by decide) (fun h9 => (by exfalso; have eh1 := fa_eq (k := 0) (by decide) h1; have eh9 := fa_ne (k := 0) (by decide) h9; omega)) (fun _ => ?_)
  refine lv_aload_n hx hb d_Mo_count_44 rfl (lv_at hl 2 rfl) ?_
  refine va_get (D := (dC, dI)) (ci := 9) (v := .int 0) (C := "NetUnfolderModel") (T := T_Mo) (N := 28) hx hb ht in_Mo hown hK hP 0 rfl rfl 10 (by decide) (ht _ wd_4_10) (fun _ h9 => h9) rfl d_Mo_count_45 ?_
  refine lv_goto (tgt := 85) hx hb d_Mo_count_48 (by decide) ?_
  have hP9 := hP.sub (ws' := [(b0, .inr (9, [.int 0, .int 0, .ref b1, .ref b2, .int 0, .int 0, .ref b3, .ref b4, .ref b5, .ref b6, .int 0, .ref b7, .ref b8, .ref b9, .ref b10, .ref b11, .ref b12, .ref b13, .int 0, .int 0, .ref b14, .ref b15, .long 0, .int 0, .int 0, .ref b16, .int (-1), .ref b17]))]) [0] rfl
  have hD9 := hD.sub (ws' := [(b0, .inr (9, [.int 0, .int 0, .ref b1, .ref b2, .int 0, .int 0, .ref b3, .ref b4, .ref b5, .ref b6, .int 0, .ref b7, .ref b8, .ref b9, .ref b10, .ref b11, .ref b12, .ref b13, .int 0, .int 0, .ref b14, .ref b15, .long 0, .int 0, .int 0, .ref b16, .int (-1), .ref b17]))]) [0] (by decide) rfl
  exact W.iret (v := 0) hx hb hr (fun t ht9 hW => ⟨⟨0, (), rfl, rfl, by rw [ht9]; exact hP9, hD9⟩, hS.F ht9⟩) hS.2.2 d_Mo_count_85

set_option maxHeartbeats 4000000 in
set_option maxRecDepth 100000 in
theorem c_Mo_count_1 (l : Launch) (dC : Nat → ClassId) (dI : Nat → Nat → Nat) (cI cL cZ : ClassId) (sz : Nat) (b0 : Nat) (b1 : Nat) (b2 : Nat) (b3 : Nat) (b4 : Nat) (b5 : Nat) (b6 : Nat) (b7 : Nat) (b8 : Nat) (b9 : Nat) (b10 : Nat) (b11 : Nat) (b12 : Nat) (b13 : Nat) (b14 : Nat) (b15 : Nat) (b16 : Nat) (b17 : Nat) (k0 : Int32) (h1 : k0 = 1) : Met l y_Mo_count (Cond.code y_Mo_count prog_11_method_37_code 4 (some .int) :: wsA) { frames := 0, cells := 0, slots := 0, locals := 0 } (va_Pc [.ref b0, .int k0] (fun U => U.heap.size = sz ∧ va_P (dC, dI) clA [(b0, .inr (9, [.int 0, .int 0, .ref b1, .ref b2, .int 0, .int 0, .ref b3, .ref b4, .ref b5, .ref b6, .int 0, .ref b7, .ref b8, .ref b9, .ref b10, .ref b11, .ref b12, .ref b13, .int 0, .int 0, .ref b14, .ref b15, .long 0, .int 0, .int 0, .ref b16, .int (-1), .ref b17]))] U.heap ∧ va_K (dC, dI) clA [(cI, .int), (cL, .long), (cZ, .boolean)] U ∧ va_D (fun _ => True) [(b0, .inr (9, [.int 0, .int 0, .ref b1, .ref b2, .int 0, .int 0, .ref b3, .ref b4, .ref b5, .ref b6, .int 0, .ref b7, .ref b8, .ref b9, .ref b10, .ref b11, .ref b12, .ref b13, .int 0, .int 0, .ref b14, .ref b15, .long 0, .int 0, .int 0, .ref b16, .int (-1), .ref b17]))] ∧ NwA U)) (va_Qi (fun r (_ : Unit) => r = 0) (fun _ t => va_P (dC, dI) clA [(b0, .inr (9, [.int 0, .int 0, .ref b1, .ref b2, .int 0, .int 0, .ref b3, .ref b4, .ref b5, .ref b6, .int 0, .ref b7, .ref b8, .ref b9, .ref b10, .ref b11, .ref b12, .ref b13, .int 0, .int 0, .ref b14, .ref b15, .long 0, .int 0, .int 0, .ref b16, .int (-1), .ref b17]))] t.heap ∧ va_D (va_A [(b0, .inr (9, [.int 0, .int 0, .ref b1, .ref b2, .int 0, .int 0, .ref b3, .ref b4, .ref b5, .ref b6, .int 0, .ref b7, .ref b8, .ref b9, .ref b10, .ref b11, .ref b12, .ref b13, .int 0, .int 0, .ref b14, .ref b15, .long 0, .int 0, .int 0, .ref b16, .int (-1), .ref b17]))] sz) [(b0, .inr (9, [.int 0, .int 0, .ref b1, .ref b2, .int 0, .int 0, .ref b3, .ref b4, .ref b5, .ref b6, .int 0, .ref b7, .ref b8, .ref b9, .ref b10, .ref b11, .ref b12, .ref b13, .int 0, .int 0, .ref b14, .ref b15, .long 0, .int 0, .int 0, .ref b16, .int (-1), .ref b17]))]) (va_A [(b0, .inr (9, [.int 0, .int 0, .ref b1, .ref b2, .int 0, .int 0, .ref b3, .ref b4, .ref b5, .ref b6, .int 0, .ref b7, .ref b8, .ref b9, .ref b10, .ref b11, .ref b12, .ref b13, .int 0, .int 0, .ref b14, .ref b15, .long 0, .int 0, .int 0, .ref b16, .int (-1), .ref b17]))] sz)) 0 0 (va_A [(b0, .inr (9, [.int 0, .int 0, .ref b1, .ref b2, .int 0, .int 0, .ref b3, .ref b4, .ref b5, .ref b6, .int 0, .ref b7, .ref b8, .ref b9, .ref b10, .ref b11, .ref b12, .ref b13, .int 0, .int 0, .ref b14, .ref b15, .long 0, .int 0, .int 0, .ref b16, .int (-1), .ref b17]))] sz) := by
  refine Met.ofW (cc := prog_11_method_37_code) (maxL := 4) (ret := (some .int)) (by decide) rfl ?_
  intro p e s m args below meth c s₁ B hml hv
  obtain ⟨rfl, hsz, hP, hK, hD0, hN⟩ := hv
  have hx := B.exec
  have hb := B.bytes
  have hr := B.returns
  have ht : ∀ w ∈ wsA, w.before _ s = true := fun w h => atoms_spec (ws := (Cond.code y_Mo_count prog_11_method_37_code 4 (some .int) :: wsA)) B.pre w (List.mem_cons_of_mem _ h)
  have hown : s.vm.findClass "NetUnfolderModel" = some m.cls := findClass_of_methodNamed B.named
  have hlocks := B.notSynchronized
  subst hsz
  have hD := hD0.self (sz := s.heap.size)
  generalize hAe : va_A [(b0, .inr (9, [.int 0, .int 0, .ref b1, .ref b2, .int 0, .int 0, .ref b3, .ref b4, .ref b5, .ref b6, .int 0, .ref b7, .ref b8, .ref b9, .ref b10, .ref b11, .ref b12, .ref b13, .int 0, .int 0, .ref b14, .ref b15, .long 0, .int 0, .int 0, .ref b16, .int (-1), .ref b17]))] s.heap.size = A at hD ⊢
  have hA : ∀ q : Nat, s.heap.size ≤ q → A q := fun q h => by rw [← hAe]; exact Or.inr h
  have hS : va_S A s.heap s.heap [] := va_S.rf
  have hl := lv_entry ([.ref b0, .int k0]) (n := 4) (Nat.le_of_ble_eq_true rfl)
  rw [lg_entry_eq]
  generalize (lg_sl ([.ref b0, .int k0]) ++ List.replicate (4 - (lg_sl ([.ref b0, .int k0])).length) Slot.unset).toArray = ls at hl ⊢
  replace hl : lv_has ls 4 [(0, .ref b0), (1, .int k0)] := hl
  refine lv_aload_n hx hb d_Mo_count_0 rfl (lv_at hl 0 rfl) ?_
  refine lv_iconst (v := 0) hx hb d_Mo_count_1 (by decide) ?_
  refine va_put (D := (dC, dI)) (ci := 9) (v := .int 0) (ty := .int) (C := "NetUnfolderModel") (T := T_Mo) (N := 28) hx hb ht in_Mo ty_Mo ok_Mo nm_Mo hown hK hP hD hS 0 rfl rfl 0 (by decide) (ht _ wd_4_0) (fun _ h9 => h9) rfl (by decide +kernel) rfl rfl (Nat.le_of_ble_eq_true rfl) d_Mo_count_2 (fun H1 locs hPn hDn hSn => ?_)
  replace hP : va_P (dC, dI) clA [(b0, .inr (9, [.int 0, .int 0, .ref b1, .ref b2, .int 0, .int 0, .ref b3, .ref b4, .ref b5, .ref b6, .int 0, .ref b7, .ref b8, .ref b9, .ref b10, .ref b11, .ref b12, .ref b13, .int 0, .int 0, .ref b14, .ref b15, .long 0, .int 0, .int 0, .ref b16, .int (-1), .ref b17]))] H1 := hPn
  replace hD : va_D A [(b0, .inr (9, [.int 0, .int 0, .ref b1, .ref b2, .int 0, .int 0, .ref b3, .ref b4, .ref b5, .ref b6, .int 0, .ref b7, .ref b8, .ref b9, .ref b10, .ref b11, .ref b12, .ref b13, .int 0, .int 0, .ref b14, .ref b15, .long 0, .int 0, .int 0, .ref b16, .int (-1), .ref b17]))] := hDn
  replace hS := hSn
  clear hPn hDn hSn
  refine lv_iconst (v := 0) hx hb d_Mo_count_5 (by decide) ?_
  refine lv_istore_n (lv' := [(2, .int 0), (0, .ref b0), (1, .int k0)]) hx hb d_Mo_count_6 rfl hl (by decide) rfl (fun ls hln => ?_)
  replace hl : lv_has ls 4 [(2, .int 0), (0, .ref b0), (1, .int k0)] := hln
  clear hln
  refine lv_iconst (v := 0) hx hb d_Mo_count_7 (by decide) ?_
  refine lv_istore_n (lv' := [(3, .int 0), (2, .int 0), (0, .ref b0), (1, .int k0)]) hx hb d_Mo_count_8 rfl hl (by decide) rfl (fun ls hln => ?_)
  replace hl : lv_has ls 4 [(3, .int 0), (2, .int 0), (0, .ref b0), (1, .int k0)] := hln
  clear hln
  refine lv_iload_n hx hb d_Mo_count_9 rfl (lv_at hl 0 rfl) ?_
  refine lv_aload_n hx hb d_Mo_count_10 rfl (lv_at hl 2 rfl) ?_
  refine va_get (D := (dC, dI)) (ci := 9) (v := .int 0) (C := "NetUnfolderModel") (T := T_Mo) (N := 28) hx hb ht in_Mo hown hK hP 0 rfl rfl 10 (by decide) (ht _ wd_4_10) (fun _ h9 => h9) rfl d_Mo_count_11 ?_
  refine lv_icmp_ge (tgt := 40) hx hb d_Mo_count_14 (by decide) (fun _ => ?_) (fun h => (h (by decide)).elim)
  refine lv_iload_n hx hb d_Mo_count_40 rfl (lv_at hl 3 rfl) ?_
  refine lv_if_ne (tgt := 51) hx hb d_Mo_count_41 (by decide) (fun _ => ?_) (fun h9 => (by exfalso; have eh1 := fa_eq (k := 1) (by decide) h1; have eh9 := fa_eq (k := 0) (by decide) h9; omega))
  refine lv_iload_n hx hb d_Mo_count_51 rfl (lv_at hl 3 rfl) ?_
  refine lv_iconst (v := 1) hx hb d_Mo_count_52 (by decide) ?_
  refine lv_icmp_ne (tgt := 63) hx hb d_Mo_count_53 (by decide) (fun h9 => (by exfalso; have eh1 := fa_eq (k := 1) (by decide) h1; have eh9 := fa_ne (k := 1) (by decide) h9; omega)) (fun _ => ?_)
  refine lv_aload_n hx hb d_Mo_count_56 rfl (lv_at hl 2 rfl) ?_
  refine va_get (D := (dC, dI)) (ci := 9) (v := .int 0) (C := "NetUnfolderModel") (T := T_Mo) (N := 28) hx hb ht in_Mo hown hK hP 0 rfl rfl 5 (by decide) (ht _ wd_4_5) (fun _ h9 => h9) rfl d_Mo_count_57 ?_
  refine lv_goto (tgt := 85) hx hb d_Mo_count_60 (by decide) ?_
  have hP9 := hP.sub (ws' := [(b0, .inr (9, [.int 0, .int 0, .ref b1, .ref b2, .int 0, .int 0, .ref b3, .ref b4, .ref b5, .ref b6, .int 0, .ref b7, .ref b8, .ref b9, .ref b10, .ref b11, .ref b12, .ref b13, .int 0, .int 0, .ref b14, .ref b15, .long 0, .int 0, .int 0, .ref b16, .int (-1), .ref b17]))]) [0] rfl
  have hD9 := hD.sub (ws' := [(b0, .inr (9, [.int 0, .int 0, .ref b1, .ref b2, .int 0, .int 0, .ref b3, .ref b4, .ref b5, .ref b6, .int 0, .ref b7, .ref b8, .ref b9, .ref b10, .ref b11, .ref b12, .ref b13, .int 0, .int 0, .ref b14, .ref b15, .long 0, .int 0, .int 0, .ref b16, .int (-1), .ref b17]))]) [0] (by decide) rfl
  exact W.iret (v := 0) hx hb hr (fun t ht9 hW => ⟨⟨0, (), rfl, rfl, by rw [ht9]; exact hP9, hD9⟩, hS.F ht9⟩) hS.2.2 d_Mo_count_85

set_option maxHeartbeats 4000000 in
set_option maxRecDepth 100000 in
theorem c_Mo_count_2 (l : Launch) (dC : Nat → ClassId) (dI : Nat → Nat → Nat) (cI cL cZ : ClassId) (sz : Nat) (b0 : Nat) (b1 : Nat) (b2 : Nat) (b3 : Nat) (b4 : Nat) (b5 : Nat) (b6 : Nat) (b7 : Nat) (b8 : Nat) (b9 : Nat) (b10 : Nat) (b11 : Nat) (b12 : Nat) (b13 : Nat) (b14 : Nat) (b15 : Nat) (b16 : Nat) (b17 : Nat) (k0 : Int32) (h1 : k0 = 2) : Met l y_Mo_count (Cond.code y_Mo_count prog_11_method_37_code 4 (some .int) :: wsA) { frames := 0, cells := 0, slots := 0, locals := 0 } (va_Pc [.ref b0, .int k0] (fun U => U.heap.size = sz ∧ va_P (dC, dI) clA [(b0, .inr (9, [.int 0, .int 0, .ref b1, .ref b2, .int 0, .int 0, .ref b3, .ref b4, .ref b5, .ref b6, .int 0, .ref b7, .ref b8, .ref b9, .ref b10, .ref b11, .ref b12, .ref b13, .int 0, .int 0, .ref b14, .ref b15, .long 0, .int 0, .int 0, .ref b16, .int (-1), .ref b17]))] U.heap ∧ va_K (dC, dI) clA [(cI, .int), (cL, .long), (cZ, .boolean)] U ∧ va_D (fun _ => True) [(b0, .inr (9, [.int 0, .int 0, .ref b1, .ref b2, .int 0, .int 0, .ref b3, .ref b4, .ref b5, .ref b6, .int 0, .ref b7, .ref b8, .ref b9, .ref b10, .ref b11, .ref b12, .ref b13, .int 0, .int 0, .ref b14, .ref b15, .long 0, .int 0, .int 0, .ref b16, .int (-1), .ref b17]))] ∧ NwA U)) (va_Qi (fun r (_ : Unit) => r = 0) (fun _ t => va_P (dC, dI) clA [(b0, .inr (9, [.int 0, .int 0, .ref b1, .ref b2, .int 0, .int 0, .ref b3, .ref b4, .ref b5, .ref b6, .int 0, .ref b7, .ref b8, .ref b9, .ref b10, .ref b11, .ref b12, .ref b13, .int 0, .int 0, .ref b14, .ref b15, .long 0, .int 0, .int 0, .ref b16, .int (-1), .ref b17]))] t.heap ∧ va_D (va_A [(b0, .inr (9, [.int 0, .int 0, .ref b1, .ref b2, .int 0, .int 0, .ref b3, .ref b4, .ref b5, .ref b6, .int 0, .ref b7, .ref b8, .ref b9, .ref b10, .ref b11, .ref b12, .ref b13, .int 0, .int 0, .ref b14, .ref b15, .long 0, .int 0, .int 0, .ref b16, .int (-1), .ref b17]))] sz) [(b0, .inr (9, [.int 0, .int 0, .ref b1, .ref b2, .int 0, .int 0, .ref b3, .ref b4, .ref b5, .ref b6, .int 0, .ref b7, .ref b8, .ref b9, .ref b10, .ref b11, .ref b12, .ref b13, .int 0, .int 0, .ref b14, .ref b15, .long 0, .int 0, .int 0, .ref b16, .int (-1), .ref b17]))]) (va_A [(b0, .inr (9, [.int 0, .int 0, .ref b1, .ref b2, .int 0, .int 0, .ref b3, .ref b4, .ref b5, .ref b6, .int 0, .ref b7, .ref b8, .ref b9, .ref b10, .ref b11, .ref b12, .ref b13, .int 0, .int 0, .ref b14, .ref b15, .long 0, .int 0, .int 0, .ref b16, .int (-1), .ref b17]))] sz)) 0 0 (va_A [(b0, .inr (9, [.int 0, .int 0, .ref b1, .ref b2, .int 0, .int 0, .ref b3, .ref b4, .ref b5, .ref b6, .int 0, .ref b7, .ref b8, .ref b9, .ref b10, .ref b11, .ref b12, .ref b13, .int 0, .int 0, .ref b14, .ref b15, .long 0, .int 0, .int 0, .ref b16, .int (-1), .ref b17]))] sz) := by
  refine Met.ofW (cc := prog_11_method_37_code) (maxL := 4) (ret := (some .int)) (by decide) rfl ?_
  intro p e s m args below meth c s₁ B hml hv
  obtain ⟨rfl, hsz, hP, hK, hD0, hN⟩ := hv
  have hx := B.exec
  have hb := B.bytes
  have hr := B.returns
  have ht : ∀ w ∈ wsA, w.before _ s = true := fun w h => atoms_spec (ws := (Cond.code y_Mo_count prog_11_method_37_code 4 (some .int) :: wsA)) B.pre w (List.mem_cons_of_mem _ h)
  have hown : s.vm.findClass "NetUnfolderModel" = some m.cls := findClass_of_methodNamed B.named
  have hlocks := B.notSynchronized
  subst hsz
  have hD := hD0.self (sz := s.heap.size)
  generalize hAe : va_A [(b0, .inr (9, [.int 0, .int 0, .ref b1, .ref b2, .int 0, .int 0, .ref b3, .ref b4, .ref b5, .ref b6, .int 0, .ref b7, .ref b8, .ref b9, .ref b10, .ref b11, .ref b12, .ref b13, .int 0, .int 0, .ref b14, .ref b15, .long 0, .int 0, .int 0, .ref b16, .int (-1), .ref b17]))] s.heap.size = A at hD ⊢
  have hA : ∀ q : Nat, s.heap.size ≤ q → A q := fun q h => by rw [← hAe]; exact Or.inr h
  have hS : va_S A s.heap s.heap [] := va_S.rf
  have hl := lv_entry ([.ref b0, .int k0]) (n := 4) (Nat.le_of_ble_eq_true rfl)
  rw [lg_entry_eq]
  generalize (lg_sl ([.ref b0, .int k0]) ++ List.replicate (4 - (lg_sl ([.ref b0, .int k0])).length) Slot.unset).toArray = ls at hl ⊢
  replace hl : lv_has ls 4 [(0, .ref b0), (1, .int k0)] := hl
  refine lv_aload_n hx hb d_Mo_count_0 rfl (lv_at hl 0 rfl) ?_
  refine lv_iconst (v := 0) hx hb d_Mo_count_1 (by decide) ?_
  refine va_put (D := (dC, dI)) (ci := 9) (v := .int 0) (ty := .int) (C := "NetUnfolderModel") (T := T_Mo) (N := 28) hx hb ht in_Mo ty_Mo ok_Mo nm_Mo hown hK hP hD hS 0 rfl rfl 0 (by decide) (ht _ wd_4_0) (fun _ h9 => h9) rfl (by decide +kernel) rfl rfl (Nat.le_of_ble_eq_true rfl) d_Mo_count_2 (fun H1 locs hPn hDn hSn => ?_)
  replace hP : va_P (dC, dI) clA [(b0, .inr (9, [.int 0, .int 0, .ref b1, .ref b2, .int 0, .int 0, .ref b3, .ref b4, .ref b5, .ref b6, .int 0, .ref b7, .ref b8, .ref b9, .ref b10, .ref b11, .ref b12, .ref b13, .int 0, .int 0, .ref b14, .ref b15, .long 0, .int 0, .int 0, .ref b16, .int (-1), .ref b17]))] H1 := hPn
  replace hD : va_D A [(b0, .inr (9, [.int 0, .int 0, .ref b1, .ref b2, .int 0, .int 0, .ref b3, .ref b4, .ref b5, .ref b6, .int 0, .ref b7, .ref b8, .ref b9, .ref b10, .ref b11, .ref b12, .ref b13, .int 0, .int 0, .ref b14, .ref b15, .long 0, .int 0, .int 0, .ref b16, .int (-1), .ref b17]))] := hDn
  replace hS := hSn
  clear hPn hDn hSn
  refine lv_iconst (v := 0) hx hb d_Mo_count_5 (by decide) ?_
  refine lv_istore_n (lv' := [(2, .int 0), (0, .ref b0), (1, .int k0)]) hx hb d_Mo_count_6 rfl hl (by decide) rfl (fun ls hln => ?_)
  replace hl : lv_has ls 4 [(2, .int 0), (0, .ref b0), (1, .int k0)] := hln
  clear hln
  refine lv_iconst (v := 0) hx hb d_Mo_count_7 (by decide) ?_
  refine lv_istore_n (lv' := [(3, .int 0), (2, .int 0), (0, .ref b0), (1, .int k0)]) hx hb d_Mo_count_8 rfl hl (by decide) rfl (fun ls hln => ?_)
  replace hl : lv_has ls 4 [(3, .int 0), (2, .int 0), (0, .ref b0), (1, .int k0)] := hln
  clear hln
  refine lv_iload_n hx hb d_Mo_count_9 rfl (lv_at hl 0 rfl) ?_
  refine lv_aload_n hx hb d_Mo_count_10 rfl (lv_at hl 2 rfl) ?_
  refine va_get (D := (dC, dI)) (ci := 9) (v := .int 0) (C := "NetUnfolderModel") (T := T_Mo) (N := 28) hx hb ht in_Mo hown hK hP 0 rfl rfl 10 (by decide) (ht _ wd_4_10) (fun _ h9 => h9) rfl d_Mo_count_11 ?_
  refine lv_icmp_ge (tgt := 40) hx hb d_Mo_count_14 (by decide) (fun _ => ?_) (fun h => (h (by decide)).elim)
  refine lv_iload_n hx hb d_Mo_count_40 rfl (lv_at hl 3 rfl) ?_
  refine lv_if_ne (tgt := 51) hx hb d_Mo_count_41 (by decide) (fun _ => ?_) (fun h9 => (by exfalso; have eh1 := fa_eq (k := 2) (by decide) h1; have eh9 := fa_eq (k := 0) (by decide) h9; omega))
  refine lv_iload_n hx hb d_Mo_count_51 rfl (lv_at hl 3 rfl) ?_
  refine lv_iconst (v := 1) hx hb d_Mo_count_52 (by decide) ?_
  refine lv_icmp_ne (tgt := 63) hx hb d_Mo_count_53 (by decide) (fun _ => ?_) (fun h9 => (by exfalso; have eh1 := fa_eq (k := 2) (by decide) h1; have eh9 := fa_eq (k := 1) (by decide) h9; omega))
  refine lv_iload_n hx hb d_Mo_count_63 rfl (lv_at hl 3 rfl) ?_
  refine lv_iconst (v := 2) hx hb d_Mo_count_64 (by decide) ?_
  refine lv_icmp_ne (tgt := 72) hx hb d_Mo_count_65 (by decide) (fun h9 => (by exfalso; have eh1 := fa_eq (k := 2) (by decide) h1; have eh9 := fa_ne (k := 2) (by decide) h9; omega)) (fun _ => ?_)
  refine lv_iload_n hx hb d_Mo_count_68 rfl (lv_at hl 1 rfl) ?_
  refine lv_goto (tgt := 85) hx hb d_Mo_count_69 (by decide) ?_
  have hP9 := hP.sub (ws' := [(b0, .inr (9, [.int 0, .int 0, .ref b1, .ref b2, .int 0, .int 0, .ref b3, .ref b4, .ref b5, .ref b6, .int 0, .ref b7, .ref b8, .ref b9, .ref b10, .ref b11, .ref b12, .ref b13, .int 0, .int 0, .ref b14, .ref b15, .long 0, .int 0, .int 0, .ref b16, .int (-1), .ref b17]))]) [0] rfl
  have hD9 := hD.sub (ws' := [(b0, .inr (9, [.int 0, .int 0, .ref b1, .ref b2, .int 0, .int 0, .ref b3, .ref b4, .ref b5, .ref b6, .int 0, .ref b7, .ref b8, .ref b9, .ref b10, .ref b11, .ref b12, .ref b13, .int 0, .int 0, .ref b14, .ref b15, .long 0, .int 0, .int 0, .ref b16, .int (-1), .ref b17]))]) [0] (by decide) rfl
  exact W.iret (v := 0) hx hb hr (fun t ht9 hW => ⟨⟨0, (), rfl, rfl, by rw [ht9]; exact hP9, hD9⟩, hS.F ht9⟩) hS.2.2 d_Mo_count_85

set_option maxHeartbeats 4000000 in
set_option maxRecDepth 100000 in
theorem c_Mo_count_n (l : Launch) (dC : Nat → ClassId) (dI : Nat → Nat → Nat) (cI cL cZ : ClassId) (sz : Nat) (b0 : Nat) (b1 : Nat) (b2 : Nat) (b3 : Nat) (b4 : Nat) (b5 : Nat) (b6 : Nat) (b7 : Nat) (b8 : Nat) (b9 : Nat) (b10 : Nat) (b11 : Nat) (b12 : Nat) (b13 : Nat) (b14 : Nat) (b15 : Nat) (b16 : Nat) (b17 : Nat) (k0 : Int32) (h0 : ¬ k0 = 0) (h1 : ¬ k0 = 1) (h2 : ¬ k0 = 2) : Met l y_Mo_count (Cond.code y_Mo_count prog_11_method_37_code 4 (some .int) :: wsA) { frames := 0, cells := 0, slots := 0, locals := 0 } (va_Pc [.ref b0, .int k0] (fun U => U.heap.size = sz ∧ va_P (dC, dI) clA [(b0, .inr (9, [.int 0, .int 0, .ref b1, .ref b2, .int 0, .int 0, .ref b3, .ref b4, .ref b5, .ref b6, .int 0, .ref b7, .ref b8, .ref b9, .ref b10, .ref b11, .ref b12, .ref b13, .int 0, .int 0, .ref b14, .ref b15, .long 0, .int 0, .int 0, .ref b16, .int (-1), .ref b17]))] U.heap ∧ va_K (dC, dI) clA [(cI, .int), (cL, .long), (cZ, .boolean)] U ∧ va_D (fun _ => True) [(b0, .inr (9, [.int 0, .int 0, .ref b1, .ref b2, .int 0, .int 0, .ref b3, .ref b4, .ref b5, .ref b6, .int 0, .ref b7, .ref b8, .ref b9, .ref b10, .ref b11, .ref b12, .ref b13, .int 0, .int 0, .ref b14, .ref b15, .long 0, .int 0, .int 0, .ref b16, .int (-1), .ref b17]))] ∧ NwA U)) (va_Qi (fun r (_ : Unit) => r = (-1)) (fun _ t => va_P (dC, dI) clA [(b0, .inr (9, [.int 0, .int 0, .ref b1, .ref b2, .int 0, .int 0, .ref b3, .ref b4, .ref b5, .ref b6, .int 0, .ref b7, .ref b8, .ref b9, .ref b10, .ref b11, .ref b12, .ref b13, .int 0, .int 0, .ref b14, .ref b15, .long 0, .int 0, .int 0, .ref b16, .int (-1), .ref b17]))] t.heap ∧ va_D (va_A [(b0, .inr (9, [.int 0, .int 0, .ref b1, .ref b2, .int 0, .int 0, .ref b3, .ref b4, .ref b5, .ref b6, .int 0, .ref b7, .ref b8, .ref b9, .ref b10, .ref b11, .ref b12, .ref b13, .int 0, .int 0, .ref b14, .ref b15, .long 0, .int 0, .int 0, .ref b16, .int (-1), .ref b17]))] sz) [(b0, .inr (9, [.int 0, .int 0, .ref b1, .ref b2, .int 0, .int 0, .ref b3, .ref b4, .ref b5, .ref b6, .int 0, .ref b7, .ref b8, .ref b9, .ref b10, .ref b11, .ref b12, .ref b13, .int 0, .int 0, .ref b14, .ref b15, .long 0, .int 0, .int 0, .ref b16, .int (-1), .ref b17]))]) (va_A [(b0, .inr (9, [.int 0, .int 0, .ref b1, .ref b2, .int 0, .int 0, .ref b3, .ref b4, .ref b5, .ref b6, .int 0, .ref b7, .ref b8, .ref b9, .ref b10, .ref b11, .ref b12, .ref b13, .int 0, .int 0, .ref b14, .ref b15, .long 0, .int 0, .int 0, .ref b16, .int (-1), .ref b17]))] sz)) 0 0 (va_A [(b0, .inr (9, [.int 0, .int 0, .ref b1, .ref b2, .int 0, .int 0, .ref b3, .ref b4, .ref b5, .ref b6, .int 0, .ref b7, .ref b8, .ref b9, .ref b10, .ref b11, .ref b12, .ref b13, .int 0, .int 0, .ref b14, .ref b15, .long 0, .int 0, .int 0, .ref b16, .int (-1), .ref b17]))] sz) := by
  refine Met.ofW (cc := prog_11_method_37_code) (maxL := 4) (ret := (some .int)) (by decide) rfl ?_
  intro p e s m args below meth c s₁ B hml hv
  obtain ⟨rfl, hsz, hP, hK, hD0, hN⟩ := hv
  have hx := B.exec
  have hb := B.bytes
  have hr := B.returns
  have ht : ∀ w ∈ wsA, w.before _ s = true := fun w h => atoms_spec (ws := (Cond.code y_Mo_count prog_11_method_37_code 4 (some .int) :: wsA)) B.pre w (List.mem_cons_of_mem _ h)
  have hown : s.vm.findClass "NetUnfolderModel" = some m.cls := findClass_of_methodNamed B.named
  have hlocks := B.notSynchronized
  subst hsz
  have hD := hD0.self (sz := s.heap.size)
  generalize hAe : va_A [(b0, .inr (9, [.int 0, .int 0, .ref b1, .ref b2, .int 0, .int 0, .ref b3, .ref b4, .ref b5, .ref b6, .int 0, .ref b7, .ref b8, .ref b9, .ref b10, .ref b11, .ref b12, .ref b13, .int 0, .int 0, .ref b14, .ref b15, .long 0, .int 0, .int 0, .ref b16, .int (-1), .ref b17]))] s.heap.size = A at hD ⊢
  have hA : ∀ q : Nat, s.heap.size ≤ q → A q := fun q h => by rw [← hAe]; exact Or.inr h
  have hS : va_S A s.heap s.heap [] := va_S.rf
  have hl := lv_entry ([.ref b0, .int k0]) (n := 4) (Nat.le_of_ble_eq_true rfl)
  rw [lg_entry_eq]
  generalize (lg_sl ([.ref b0, .int k0]) ++ List.replicate (4 - (lg_sl ([.ref b0, .int k0])).length) Slot.unset).toArray = ls at hl ⊢
  replace hl : lv_has ls 4 [(0, .ref b0), (1, .int k0)] := hl
  refine lv_aload_n hx hb d_Mo_count_0 rfl (lv_at hl 0 rfl) ?_
  refine lv_iconst (v := 0) hx hb d_Mo_count_1 (by decide) ?_
  refine va_put (D := (dC, dI)) (ci := 9) (v := .int 0) (ty := .int) (C := "NetUnfolderModel") (T := T_Mo) (N := 28) hx hb ht in_Mo ty_Mo ok_Mo nm_Mo hown hK hP hD hS 0 rfl rfl 0 (by decide) (ht _ wd_4_0) (fun _ h9 => h9) rfl (by decide +kernel) rfl rfl (Nat.le_of_ble_eq_true rfl) d_Mo_count_2 (fun H1 locs hPn hDn hSn => ?_)
  replace hP : va_P (dC, dI) clA [(b0, .inr (9, [.int 0, .int 0, .ref b1, .ref b2, .int 0, .int 0, .ref b3, .ref b4, .ref b5, .ref b6, .int 0, .ref b7, .ref b8, .ref b9, .ref b10, .ref b11, .ref b12, .ref b13, .int 0, .int 0, .ref b14, .ref b15, .long 0, .int 0, .int 0, .ref b16, .int (-1), .ref b17]))] H1 := hPn
  replace hD : va_D A [(b0, .inr (9, [.int 0, .int 0, .ref b1, .ref b2, .int 0, .int 0, .ref b3, .ref b4, .ref b5, .ref b6, .int 0, .ref b7, .ref b8, .ref b9, .ref b10, .ref b11, .ref b12, .ref b13, .int 0, .int 0, .ref b14, .ref b15, .long 0, .int 0, .int 0, .ref b16, .int (-1), .ref b17]))] := hDn
  replace hS := hSn
  clear hPn hDn hSn
  refine lv_iconst (v := 0) hx hb d_Mo_count_5 (by decide) ?_
  refine lv_istore_n (lv' := [(2, .int 0), (0, .ref b0), (1, .int k0)]) hx hb d_Mo_count_6 rfl hl (by decide) rfl (fun ls hln => ?_)
  replace hl : lv_has ls 4 [(2, .int 0), (0, .ref b0), (1, .int k0)] := hln
  clear hln
  refine lv_iconst (v := 0) hx hb d_Mo_count_7 (by decide) ?_
  refine lv_istore_n (lv' := [(3, .int 0), (2, .int 0), (0, .ref b0), (1, .int k0)]) hx hb d_Mo_count_8 rfl hl (by decide) rfl (fun ls hln => ?_)
  replace hl : lv_has ls 4 [(3, .int 0), (2, .int 0), (0, .ref b0), (1, .int k0)] := hln
  clear hln
  refine lv_iload_n hx hb d_Mo_count_9 rfl (lv_at hl 0 rfl) ?_
  refine lv_aload_n hx hb d_Mo_count_10 rfl (lv_at hl 2 rfl) ?_
  refine va_get (D := (dC, dI)) (ci := 9) (v := .int 0) (C := "NetUnfolderModel") (T := T_Mo) (N := 28) hx hb ht in_Mo hown hK hP 0 rfl rfl 10 (by decide) (ht _ wd_4_10) (fun _ h9 => h9) rfl d_Mo_count_11 ?_
  refine lv_icmp_ge (tgt := 40) hx hb d_Mo_count_14 (by decide) (fun _ => ?_) (fun h => (h (by decide)).elim)
  refine lv_iload_n hx hb d_Mo_count_40 rfl (lv_at hl 3 rfl) ?_
  refine lv_if_ne (tgt := 51) hx hb d_Mo_count_41 (by decide) (fun _ => ?_) (fun h9 => (by exfalso; have eh0 := fa_ne (k := 0) (by decide) h0; have eh1 := fa_ne (k := 1) (by decide) h1; have eh2 := fa_ne (k := 2) (by decide) h2; have eh9 := fa_eq (k := 0) (by decide) h9; omega))
  refine lv_iload_n hx hb d_Mo_count_51 rfl (lv_at hl 3 rfl) ?_
  refine lv_iconst (v := 1) hx hb d_Mo_count_52 (by decide) ?_
  refine lv_icmp_ne (tgt := 63) hx hb d_Mo_count_53 (by decide) (fun _ => ?_) (fun h9 => (by exfalso; have eh0 := fa_ne (k := 0) (by decide) h0; have eh1 := fa_ne (k := 1) (by decide) h1; have eh2 := fa_ne (k := 2) (by decide) h2; have eh9 := fa_eq (k := 1) (by decide) h9; omega))
  refine lv_iload_n hx hb d_Mo_count_63 rfl (lv_at hl 3 rfl) ?_
  refine lv_iconst (v := 2) hx hb d_Mo_count_64 (by decide) ?_
  refine lv_icmp_ne (tgt := 72) hx hb d_Mo_count_65 (by decide) (fun _ => ?_) (fun h9 => (by exfalso; have eh0 := fa_ne (k := 0) (by decide) h0; have eh1 := fa_ne (k := 1) (by decide) h1; have eh2 := fa_ne (k := 2) (by decide) h2; have eh9 := fa_eq (k := 2) (by decide) h9; omega))
  refine lv_iload_n hx hb d_Mo_count_72 rfl (lv_at hl 3 rfl) ?_
  refine lv_iconst (v := 3) hx hb d_Mo_count_73 (by decide) ?_
  refine lv_icmp_ne (tgt := 84) hx hb d_Mo_count_74 (by decide) (fun hb2 => ?_) (fun hb2 => ?_)
  · skip
    refine lv_iconst (v := (-1)) hx hb d_Mo_count_84 (by decide) ?_
    have hP9 := hP.sub (ws' := [(b0, .inr (9, [.int 0, .int 0, .ref b1, .ref b2, .int 0, .int 0, .ref b3, .ref b4, .ref b5, .ref b6, .int 0, .ref b7, .ref b8, .ref b9, .ref b10, .ref b11, .ref b12, .ref b13, .int 0, .int 0, .ref b14, .ref b15, .long 0, .int 0, .int 0, .ref b16, .int (-1), .ref b17]))]) [0] rfl
    have hD9 := hD.sub (ws' := [(b0, .inr (9, [.int 0, .int 0, .ref b1, .ref b2, .int 0, .int 0, .ref b3, .ref b4, .ref b5, .ref b6, .int 0, .ref b7, .ref b8, .ref b9, .ref b10, .ref b11, .ref b12, .ref b13, .int 0, .int 0, .ref b14, .ref b15, .long 0, .int 0, .int 0, .ref b16, .int (-1), .ref b17]))]) [0] (by decide) rfl
    exact W.iret (v := (-1)) hx hb hr (fun t ht9 hW => ⟨⟨(-1), (), rfl, rfl, by rw [ht9]; exact hP9, hD9⟩, hS.F ht9⟩) hS.2.2 d_Mo_count_85
  · skip
    refine lv_aload_n hx hb d_Mo_count_77 rfl (lv_at hl 2 rfl) ?_
    refine va_get (D := (dC, dI)) (ci := 9) (v := .int (-1)) (C := "NetUnfolderModel") (T := T_Mo) (N := 28) hx hb ht in_Mo hown hK hP 0 rfl rfl 26 (by decide) (ht _ wd_4_26) (fun _ h9 => h9) rfl d_Mo_count_78 ?_
    refine lv_goto (tgt := 85) hx hb d_Mo_count_81 (by decide) ?_
    have hP9 := hP.sub (ws' := [(b0, .inr (9, [.int 0, .int 0, .ref b1, .ref b2, .int 0, .int 0, .ref b3, .ref b4, .ref b5, .ref b6, .int 0, .ref b7, .ref b8, .ref b9, .ref b10, .ref b11, .ref b12, .ref b13, .int 0, .int 0, .ref b14, .ref b15, .long 0, .int 0, .int 0, .ref b16, .int (-1), .ref b17]))]) [0] rfl
    have hD9 := hD.sub (ws' := [(b0, .inr (9, [.int 0, .int 0, .ref b1, .ref b2, .int 0, .int 0, .ref b3, .ref b4, .ref b5, .ref b6, .int 0, .ref b7, .ref b8, .ref b9, .ref b10, .ref b11, .ref b12, .ref b13, .int 0, .int 0, .ref b14, .ref b15, .long 0, .int 0, .int 0, .ref b16, .int (-1), .ref b17]))]) [0] (by decide) rfl
    exact W.iret (v := (-1)) hx hb hr (fun t ht9 hW => ⟨⟨(-1), (), rfl, rfl, by rw [ht9]; exact hP9, hD9⟩, hS.F ht9⟩) hS.2.2 d_Mo_count_85

set_option maxHeartbeats 4000000 in
set_option maxRecDepth 100000 in
theorem c_Mo_event (l : Launch) (dC : Nat → ClassId) (dI : Nat → Nat → Nat) (cI cL cZ : ClassId) (sz : Nat) (b0 : Nat) (b1 : Nat) (b2 : Nat) (b3 : Nat) (b4 : Nat) (b5 : Nat) (b6 : Nat) (b7 : Nat) (b8 : Nat) (b9 : Nat) (b10 : Nat) (b11 : Nat) (b12 : Nat) (b13 : Nat) (b14 : Nat) (b15 : Nat) (b16 : Nat) (b17 : Nat) (k0 : Int32) (k1 : Int32) : Met l y_Mo_event (Cond.code y_Mo_event prog_11_method_38_code 3 (some .int) :: wsA) { frames := 1, cells := 0, slots := 0, locals := 22 } (va_Pc [.ref b0, .int k0, .int k1] (fun U => U.heap.size = sz ∧ va_P (dC, dI) clA [(b0, .inr (9, [.int 0, .int 0, .ref b1, .ref b2, .int 0, .int 0, .ref b3, .ref b4, .ref b5, .ref b6, .int 0, .ref b7, .ref b8, .ref b9, .ref b10, .ref b11, .ref b12, .ref b13, .int 0, .int 0, .ref b14, .ref b15, .long 0, .int 0, .int 0, .ref b16, .int (-1), .ref b17]))] U.heap ∧ va_K (dC, dI) clA [(cI, .int), (cL, .long), (cZ, .boolean)] U ∧ va_D (fun _ => True) [(b0, .inr (9, [.int 0, .int 0, .ref b1, .ref b2, .int 0, .int 0, .ref b3, .ref b4, .ref b5, .ref b6, .int 0, .ref b7, .ref b8, .ref b9, .ref b10, .ref b11, .ref b12, .ref b13, .int 0, .int 0, .ref b14, .ref b15, .long 0, .int 0, .int 0, .ref b16, .int (-1), .ref b17]))] ∧ NwA U)) (va_Qi (fun r (_ : Unit) => r = (-1)) (fun _ t => va_P (dC, dI) clA [(b0, .inr (9, [.int 0, .int 0, .ref b1, .ref b2, .int 0, .int 0, .ref b3, .ref b4, .ref b5, .ref b6, .int 0, .ref b7, .ref b8, .ref b9, .ref b10, .ref b11, .ref b12, .ref b13, .int 0, .int 0, .ref b14, .ref b15, .long 0, .int 0, .int 0, .ref b16, .int (-1), .ref b17]))] t.heap ∧ va_D (va_A [(b0, .inr (9, [.int 0, .int 0, .ref b1, .ref b2, .int 0, .int 0, .ref b3, .ref b4, .ref b5, .ref b6, .int 0, .ref b7, .ref b8, .ref b9, .ref b10, .ref b11, .ref b12, .ref b13, .int 0, .int 0, .ref b14, .ref b15, .long 0, .int 0, .int 0, .ref b16, .int (-1), .ref b17]))] sz) [(b0, .inr (9, [.int 0, .int 0, .ref b1, .ref b2, .int 0, .int 0, .ref b3, .ref b4, .ref b5, .ref b6, .int 0, .ref b7, .ref b8, .ref b9, .ref b10, .ref b11, .ref b12, .ref b13, .int 0, .int 0, .ref b14, .ref b15, .long 0, .int 0, .int 0, .ref b16, .int (-1), .ref b17]))]) (va_A [(b0, .inr (9, [.int 0, .int 0, .ref b1, .ref b2, .int 0, .int 0, .ref b3, .ref b4, .ref b5, .ref b6, .int 0, .ref b7, .ref b8, .ref b9, .ref b10, .ref b11, .ref b12, .ref b13, .int 0, .int 0, .ref b14, .ref b15, .long 0, .int 0, .int 0, .ref b16, .int (-1), .ref b17]))] sz)) 0 0 (va_A [(b0, .inr (9, [.int 0, .int 0, .ref b1, .ref b2, .int 0, .int 0, .ref b3, .ref b4, .ref b5, .ref b6, .int 0, .ref b7, .ref b8, .ref b9, .ref b10, .ref b11, .ref b12, .ref b13, .int 0, .int 0, .ref b14, .ref b15, .long 0, .int 0, .int 0, .ref b16, .int (-1), .ref b17]))] sz) := by
  refine Met.ofW (cc := prog_11_method_38_code) (maxL := 3) (ret := (some .int)) (by decide) rfl ?_
  intro p e s m args below meth c s₁ B hml hv
  obtain ⟨rfl, hsz, hP, hK, hD0, hN⟩ := hv
  have hx := B.exec
  have hb := B.bytes
  have hr := B.returns
  have ht : ∀ w ∈ wsA, w.before _ s = true := fun w h => atoms_spec (ws := (Cond.code y_Mo_event prog_11_method_38_code 3 (some .int) :: wsA)) B.pre w (List.mem_cons_of_mem _ h)
  have hown : s.vm.findClass "NetUnfolderModel" = some m.cls := findClass_of_methodNamed B.named
  have hlocks := B.notSynchronized
  subst hsz
  have hD := hD0.self (sz := s.heap.size)
  generalize hAe : va_A [(b0, .inr (9, [.int 0, .int 0, .ref b1, .ref b2, .int 0, .int 0, .ref b3, .ref b4, .ref b5, .ref b6, .int 0, .ref b7, .ref b8, .ref b9, .ref b10, .ref b11, .ref b12, .ref b13, .int 0, .int 0, .ref b14, .ref b15, .long 0, .int 0, .int 0, .ref b16, .int (-1), .ref b17]))] s.heap.size = A at hD ⊢
  have hA : ∀ q : Nat, s.heap.size ≤ q → A q := fun q h => by rw [← hAe]; exact Or.inr h
  have hS : va_S A s.heap s.heap [] := va_S.rf
  have hl := lv_entry ([.ref b0, .int k0, .int k1]) (n := 3) (Nat.le_of_ble_eq_true rfl)
  rw [lg_entry_eq]
  generalize (lg_sl ([.ref b0, .int k0, .int k1]) ++ List.replicate (3 - (lg_sl ([.ref b0, .int k0, .int k1])).length) Slot.unset).toArray = ls at hl ⊢
  replace hl : lv_has ls 3 [(0, .ref b0), (1, .int k0), (2, .int k1)] := hl
  refine lv_aload_n hx hb d_Mo_event_0 rfl (lv_at hl 0 rfl) ?_
  refine lv_iconst (v := 0) hx hb d_Mo_event_1 (by decide) ?_
  refine va_put (D := (dC, dI)) (ci := 9) (v := .int 0) (ty := .int) (C := "NetUnfolderModel") (T := T_Mo) (N := 28) hx hb ht in_Mo ty_Mo ok_Mo nm_Mo hown hK hP hD hS 0 rfl rfl 0 (by decide) (ht _ wd_4_0) (fun _ h9 => h9) rfl (by decide +kernel) rfl rfl (Nat.le_of_ble_eq_true rfl) d_Mo_event_2 (fun H1 locs hPn hDn hSn => ?_)
  replace hP : va_P (dC, dI) clA [(b0, .inr (9, [.int 0, .int 0, .ref b1, .ref b2, .int 0, .int 0, .ref b3, .ref b4, .ref b5, .ref b6, .int 0, .ref b7, .ref b8, .ref b9, .ref b10, .ref b11, .ref b12, .ref b13, .int 0, .int 0, .ref b14, .ref b15, .long 0, .int 0, .int 0, .ref b16, .int (-1), .ref b17]))] H1 := hPn
  replace hD : va_D A [(b0, .inr (9, [.int 0, .int 0, .ref b1, .ref b2, .int 0, .int 0, .ref b3, .ref b4, .ref b5, .ref b6, .int 0, .ref b7, .ref b8, .ref b9, .ref b10, .ref b11, .ref b12, .ref b13, .int 0, .int 0, .ref b14, .ref b15, .long 0, .int 0, .int 0, .ref b16, .int (-1), .ref b17]))] := hDn
  replace hS := hSn
  clear hPn hDn hSn
  refine lv_iload_n hx hb d_Mo_event_5 rfl (lv_at hl 1 rfl) ?_
  refine lv_iconst (v := 0) hx hb d_Mo_event_6 (by decide) ?_
  refine lv_aload_n hx hb d_Mo_event_7 rfl (lv_at hl 0 rfl) ?_
  refine va_get (D := (dC, dI)) (ci := 9) (v := .int 0) (C := "NetUnfolderModel") (T := T_Mo) (N := 28) hx hb ht in_Mo hown hK hP 0 rfl rfl 10 (by decide) (ht _ wd_4_10) (fun _ h9 => h9) rfl d_Mo_event_8 ?_
  refine lv_iconst (v := 1) hx hb d_Mo_event_11 (by decide) ?_
  refine lv_isub hx hb d_Mo_event_12 ?_
  refine ci_i (y := (-1)) (by decide) ?_
  by_cases hc2 : k0 < 0
  · skip
    have hPc : va_P (dC, dI) clA [] _ := pu_P (H := H1)
    have hDc : va_D (fun _ => True) [] := pu_D
    have hFc := pu_free hS hA
    refine va_calli (va_runS (As := [.int k0, .int 0, .int (-1)]) (rest := []) ⟨hx, hb, hml, hown, ht⟩ (c_Mo_outside_0_m1_lo l dC dI cI cL cZ _ k0 hc2) (va_cwS 3 ht (good_S wd_4_94 wd_4_95 wd_1_10 wd_4_96) rfl rfl rfl (by decide +kernel) ⟨Nat.le_of_ble_eq_true rfl, Nat.le_of_ble_eq_true rfl⟩) ⟨fun a U g mk q => by obtain ⟨q0, q1, qP, qK, qD, qN⟩ := q; exact ⟨q0, q1, qP, va_K.moved (u := U) (U := U.calling g mk a) (Vm.Alike.refl U.vm) qK, qD, NwA.same (u := U) rfl qN⟩, fun U hU hW => ⟨rfl, by rw [hU], by rw [hU]; exact hPc, va_K.moved hW.alike hK, hDc.weaken (fun _ _ _ _ => trivial), NwA.warm hW hN⟩⟩ rfl rfl hl.1 rfl (lv_room (Nat.le_of_ble_eq_true rfl)) d_Mo_event_13 ⟨Nat.le_of_ble_eq_true rfl, Nat.le_of_ble_eq_true rfl⟩) hS (fun q _ h => hFc q h) hFc (fun r9 u t H3 locs ht9 hvm hw4 hB hz1 hk1 hSn => ?_)
    replace hP : va_P (dC, dI) clA [(b0, .inr (9, [.int 0, .int 0, .ref b1, .ref b2, .int 0, .int 0, .ref b3, .ref b4, .ref b5, .ref b6, .int 0, .ref b7, .ref b8, .ref b9, .ref b10, .ref b11, .ref b12, .ref b13, .int 0, .int 0, .ref b14, .ref b15, .long 0, .int 0, .int 0, .ref b16, .int (-1), .ref b17]))] H3 := pu_keep hP hk1
    replace hS := hSn
    clear hSn hPc hDc hFc hk1 hz1 ht9 hvm hB
    refine W.cs (cells' := 0) (slots' := 0) rfl rfl ?_
    subst hw4
    refine lv_if_ne (tgt := 28) hx hb d_Mo_event_16 (by decide) (fun _ => ?_) (fun h => absurd h (by decide))
    refine lv_iconst (v := (-1)) hx hb d_Mo_event_28 (by decide) ?_
    have hP9 := hP.sub (ws' := [(b0, .inr (9, [.int 0, .int 0, .ref b1, .ref b2, .int 0, .int 0, .ref b3, .ref b4, .ref b5, .ref b6, .int 0, .ref b7, .ref b8, .ref b9, .ref b10, .ref b11, .ref b12, .ref b13, .int 0, .int 0, .ref b14, .ref b15, .long 0, .int 0, .int 0, .ref b16, .int (-1), .ref b17]))]) [0] rfl
    have hD9 := hD.sub (ws' := [(b0, .inr (9, [.int 0, .int 0, .ref b1, .ref b2, .int 0, .int 0, .ref b3, .ref b4, .ref b5, .ref b6, .int 0, .ref b7, .ref b8, .ref b9, .ref b10, .ref b11, .ref b12, .ref b13, .int 0, .int 0, .ref b14, .ref b15, .long 0, .int 0, .int 0, .ref b16, .int (-1), .ref b17]))]) [0] (by decide) rfl
    exact W.iret (v := (-1)) hx hb hr (fun t ht9 hW => ⟨⟨(-1), (), rfl, rfl, by rw [ht9]; exact hP9, hD9⟩, hS.F ht9⟩) hS.2.2 d_Mo_event_29
  · skip
    have hPc : va_P (dC, dI) clA [] _ := pu_P (H := H1)
    have hDc : va_D (fun _ => True) [] := pu_D
    have hFc := pu_free hS hA
    refine va_calli (va_runS (As := [.int k0, .int 0, .int (-1)]) (rest := []) ⟨hx, hb, hml, hown, ht⟩ (c_Mo_outside_0_m1_hi l dC dI cI cL cZ _ k0 hc2 (gb_lt (k := -1) (by decide) (by have ehc2 := fa_nlt (k := 0) (by decide) hc2; omega))) (va_cwS 3 ht (good_S wd_4_94 wd_4_95 wd_1_10 wd_4_96) rfl rfl rfl (by decide +kernel) ⟨Nat.le_of_ble_eq_true rfl, Nat.le_of_ble_eq_true rfl⟩) ⟨fun a U g mk q => by obtain ⟨q0, q1, qP, qK, qD, qN⟩ := q; exact ⟨q0, q1, qP, va_K.moved (u := U) (U := U.calling g mk a) (Vm.Alike.refl U.vm) qK, qD, NwA.same (u := U) rfl qN⟩, fun U hU hW => ⟨rfl, by rw [hU], by rw [hU]; exact hPc, va_K.moved hW.alike hK, hDc.weaken (fun _ _ _ _ => trivial), NwA.warm hW hN⟩⟩ rfl rfl hl.1 rfl (lv_room (Nat.le_of_ble_eq_true rfl)) d_Mo_event_13 ⟨Nat.le_of_ble_eq_true rfl, Nat.le_of_ble_eq_true rfl⟩) hS (fun q _ h => hFc q h) hFc (fun r9 u t H5 locs ht9 hvm hw6 hB hz1 hk1 hSn => ?_)
    replace hP : va_P (dC, dI) clA [(b0, .inr (9, [.int 0, .int 0, .ref b1, .ref b2, .int 0, .int 0, .ref b3, .ref b4, .ref b5, .ref b6, .int 0, .ref b7, .ref b8, .ref b9, .ref b10, .ref b11, .ref b12, .ref b13, .int 0, .int 0, .ref b14, .ref b15, .long 0, .int 0, .int 0, .ref b16, .int (-1), .ref b17]))] H5 := pu_keep hP hk1
    replace hS := hSn
    clear hSn hPc hDc hFc hk1 hz1 ht9 hvm hB
    refine W.cs (cells' := 0) (slots' := 0) rfl rfl ?_
    subst hw6
    refine lv_if_ne (tgt := 28) hx hb d_Mo_event_16 (by decide) (fun _ => ?_) (fun h => absurd h (by decide))
    refine lv_iconst (v := (-1)) hx hb d_Mo_event_28 (by decide) ?_
    have hP9 := hP.sub (ws' := [(b0, .inr (9, [.int 0, .int 0, .ref b1, .ref b2, .int 0, .int 0, .ref b3, .ref b4, .ref b5, .ref b6, .int 0, .ref b7, .ref b8, .ref b9, .ref b10, .ref b11, .ref b12, .ref b13, .int 0, .int 0, .ref b14, .ref b15, .long 0, .int 0, .int 0, .ref b16, .int (-1), .ref b17]))]) [0] rfl
    have hD9 := hD.sub (ws' := [(b0, .inr (9, [.int 0, .int 0, .ref b1, .ref b2, .int 0, .int 0, .ref b3, .ref b4, .ref b5, .ref b6, .int 0, .ref b7, .ref b8, .ref b9, .ref b10, .ref b11, .ref b12, .ref b13, .int 0, .int 0, .ref b14, .ref b15, .long 0, .int 0, .int 0, .ref b16, .int (-1), .ref b17]))]) [0] (by decide) rfl
    exact W.iret (v := (-1)) hx hb hr (fun t ht9 hW => ⟨⟨(-1), (), rfl, rfl, by rw [ht9]; exact hP9, hD9⟩, hS.F ht9⟩) hS.2.2 d_Mo_event_29

set_option maxHeartbeats 4000000 in
set_option maxRecDepth 100000 in
theorem c_Mo_takes (l : Launch) (dC : Nat → ClassId) (dI : Nat → Nat → Nat) (cI cL cZ : ClassId) (sz : Nat) (b0 : Nat) (b1 : Nat) (b2 : Nat) (b3 : Nat) (b4 : Nat) (b5 : Nat) (b6 : Nat) (b7 : Nat) (b8 : Nat) (b9 : Nat) (b10 : Nat) (b11 : Nat) (b12 : Nat) (b13 : Nat) (b14 : Nat) (b15 : Nat) (b16 : Nat) (b17 : Nat) (k0 : Int32) (k1 : Int32) : Met l y_Mo_takes (Cond.code y_Mo_takes prog_11_method_39_code 3 (some .int) :: wsA) { frames := 1, cells := 0, slots := 0, locals := 22 } (va_Pc [.ref b0, .int k0, .int k1] (fun U => U.heap.size = sz ∧ va_P (dC, dI) clA [(b0, .inr (9, [.int 0, .int 0, .ref b1, .ref b2, .int 0, .int 0, .ref b3, .ref b4, .ref b5, .ref b6, .int 0, .ref b7, .ref b8, .ref b9, .ref b10, .ref b11, .ref b12, .ref b13, .int 0, .int 0, .ref b14, .ref b15, .long 0, .int 0, .int 0, .ref b16, .int (-1), .ref b17]))] U.heap ∧ va_K (dC, dI) clA [(cI, .int), (cL, .long), (cZ, .boolean)] U ∧ va_D (fun _ => True) [(b0, .inr (9, [.int 0, .int 0, .ref b1, .ref b2, .int 0, .int 0, .ref b3, .ref b4, .ref b5, .ref b6, .int 0, .ref b7, .ref b8, .ref b9, .ref b10, .ref b11, .ref b12, .ref b13, .int 0, .int 0, .ref b14, .ref b15, .long 0, .int 0, .int 0, .ref b16, .int (-1), .ref b17]))] ∧ NwA U)) (va_Qi (fun r (_ : Unit) => r = (-1)) (fun _ t => va_P (dC, dI) clA [(b0, .inr (9, [.int 0, .int 0, .ref b1, .ref b2, .int 0, .int 0, .ref b3, .ref b4, .ref b5, .ref b6, .int 0, .ref b7, .ref b8, .ref b9, .ref b10, .ref b11, .ref b12, .ref b13, .int 0, .int 0, .ref b14, .ref b15, .long 0, .int 0, .int 0, .ref b16, .int (-1), .ref b17]))] t.heap ∧ va_D (va_A [(b0, .inr (9, [.int 0, .int 0, .ref b1, .ref b2, .int 0, .int 0, .ref b3, .ref b4, .ref b5, .ref b6, .int 0, .ref b7, .ref b8, .ref b9, .ref b10, .ref b11, .ref b12, .ref b13, .int 0, .int 0, .ref b14, .ref b15, .long 0, .int 0, .int 0, .ref b16, .int (-1), .ref b17]))] sz) [(b0, .inr (9, [.int 0, .int 0, .ref b1, .ref b2, .int 0, .int 0, .ref b3, .ref b4, .ref b5, .ref b6, .int 0, .ref b7, .ref b8, .ref b9, .ref b10, .ref b11, .ref b12, .ref b13, .int 0, .int 0, .ref b14, .ref b15, .long 0, .int 0, .int 0, .ref b16, .int (-1), .ref b17]))]) (va_A [(b0, .inr (9, [.int 0, .int 0, .ref b1, .ref b2, .int 0, .int 0, .ref b3, .ref b4, .ref b5, .ref b6, .int 0, .ref b7, .ref b8, .ref b9, .ref b10, .ref b11, .ref b12, .ref b13, .int 0, .int 0, .ref b14, .ref b15, .long 0, .int 0, .int 0, .ref b16, .int (-1), .ref b17]))] sz)) 0 0 (va_A [(b0, .inr (9, [.int 0, .int 0, .ref b1, .ref b2, .int 0, .int 0, .ref b3, .ref b4, .ref b5, .ref b6, .int 0, .ref b7, .ref b8, .ref b9, .ref b10, .ref b11, .ref b12, .ref b13, .int 0, .int 0, .ref b14, .ref b15, .long 0, .int 0, .int 0, .ref b16, .int (-1), .ref b17]))] sz) := by
  refine Met.ofW (cc := prog_11_method_39_code) (maxL := 3) (ret := (some .int)) (by decide) rfl ?_
  intro p e s m args below meth c s₁ B hml hv
  obtain ⟨rfl, hsz, hP, hK, hD0, hN⟩ := hv
  have hx := B.exec
  have hb := B.bytes
  have hr := B.returns
  have ht : ∀ w ∈ wsA, w.before _ s = true := fun w h => atoms_spec (ws := (Cond.code y_Mo_takes prog_11_method_39_code 3 (some .int) :: wsA)) B.pre w (List.mem_cons_of_mem _ h)
  have hown : s.vm.findClass "NetUnfolderModel" = some m.cls := findClass_of_methodNamed B.named
  have hlocks := B.notSynchronized
  subst hsz
  have hD := hD0.self (sz := s.heap.size)
  generalize hAe : va_A [(b0, .inr (9, [.int 0, .int 0, .ref b1, .ref b2, .int 0, .int 0, .ref b3, .ref b4, .ref b5, .ref b6, .int 0, .ref b7, .ref b8, .ref b9, .ref b10, .ref b11, .ref b12, .ref b13, .int 0, .int 0, .ref b14, .ref b15, .long 0, .int 0, .int 0, .ref b16, .int (-1), .ref b17]))] s.heap.size = A at hD ⊢
  have hA : ∀ q : Nat, s.heap.size ≤ q → A q := fun q h => by rw [← hAe]; exact Or.inr h
  have hS : va_S A s.heap s.heap [] := va_S.rf
  have hl := lv_entry ([.ref b0, .int k0, .int k1]) (n := 3) (Nat.le_of_ble_eq_true rfl)
  rw [lg_entry_eq]
  generalize (lg_sl ([.ref b0, .int k0, .int k1]) ++ List.replicate (3 - (lg_sl ([.ref b0, .int k0, .int k1])).length) Slot.unset).toArray = ls at hl ⊢
  replace hl : lv_has ls 3 [(0, .ref b0), (1, .int k0), (2, .int k1)] := hl
  refine lv_aload_n hx hb d_Mo_takes_0 rfl (lv_at hl 0 rfl) ?_
  refine lv_iconst (v := 0) hx hb d_Mo_takes_1 (by decide) ?_
  refine va_put (D := (dC, dI)) (ci := 9) (v := .int 0) (ty := .int) (C := "NetUnfolderModel") (T := T_Mo) (N := 28) hx hb ht in_Mo ty_Mo ok_Mo nm_Mo hown hK hP hD hS 0 rfl rfl 0 (by decide) (ht _ wd_4_0) (fun _ h9 => h9) rfl (by decide +kernel) rfl rfl (Nat.le_of_ble_eq_true rfl) d_Mo_takes_2 (fun H1 locs hPn hDn hSn => ?_)
  replace hP : va_P (dC, dI) clA [(b0, .inr (9, [.int 0, .int 0, .ref b1, .ref b2, .int 0, .int 0, .ref b3, .ref b4, .ref b5, .ref b6, .int 0, .ref b7, .ref b8, .ref b9, .ref b10, .ref b11, .ref b12, .ref b13, .int 0, .int 0, .ref b14, .ref b15, .long 0, .int 0, .int 0, .ref b16, .int (-1), .ref b17]))] H1 := hPn
  replace hD : va_D A [(b0, .inr (9, [.int 0, .int 0, .ref b1, .ref b2, .int 0, .int 0, .ref b3, .ref b4, .ref b5, .ref b6, .int 0, .ref b7, .ref b8, .ref b9, .ref b10, .ref b11, .ref b12, .ref b13, .int 0, .int 0, .ref b14, .ref b15, .long 0, .int 0, .int 0, .ref b16, .int (-1), .ref b17]))] := hDn
  replace hS := hSn
  clear hPn hDn hSn
  refine lv_iload_n hx hb d_Mo_takes_5 rfl (lv_at hl 1 rfl) ?_
  refine lv_iconst (v := 0) hx hb d_Mo_takes_6 (by decide) ?_
  refine lv_aload_n hx hb d_Mo_takes_7 rfl (lv_at hl 0 rfl) ?_
  refine va_get (D := (dC, dI)) (ci := 9) (v := .int 0) (C := "NetUnfolderModel") (T := T_Mo) (N := 28) hx hb ht in_Mo hown hK hP 0 rfl rfl 10 (by decide) (ht _ wd_4_10) (fun _ h9 => h9) rfl d_Mo_takes_8 ?_
  refine lv_iconst (v := 1) hx hb d_Mo_takes_11 (by decide) ?_
  refine lv_isub hx hb d_Mo_takes_12 ?_
  refine ci_i (y := (-1)) (by decide) ?_
  by_cases hc2 : k0 < 0
  · skip
    have hPc : va_P (dC, dI) clA [] _ := pu_P (H := H1)
    have hDc : va_D (fun _ => True) [] := pu_D
    have hFc := pu_free hS hA
    refine va_calli (va_runS (As := [.int k0, .int 0, .int (-1)]) (rest := []) ⟨hx, hb, hml, hown, ht⟩ (c_Mo_outside_0_m1_lo l dC dI cI cL cZ _ k0 hc2) (va_cwS 3 ht (good_S wd_4_94 wd_4_95 wd_1_10 wd_4_96) rfl rfl rfl (by decide +kernel) ⟨Nat.le_of_ble_eq_true rfl, Nat.le_of_ble_eq_true rfl⟩) ⟨fun a U g mk q => by obtain ⟨q0, q1, qP, qK, qD, qN⟩ := q; exact ⟨q0, q1, qP, va_K.moved (u := U) (U := U.calling g mk a) (Vm.Alike.refl U.vm) qK, qD, NwA.same (u := U) rfl qN⟩, fun U hU hW => ⟨rfl, by rw [hU], by rw [hU]; exact hPc, va_K.moved hW.alike hK, hDc.weaken (fun _ _ _ _ => trivial), NwA.warm hW hN⟩⟩ rfl rfl hl.1 rfl (lv_room (Nat.le_of_ble_eq_true rfl)) d_Mo_takes_13 ⟨Nat.le_of_ble_eq_true rfl, Nat.le_of_ble_eq_true rfl⟩) hS (fun q _ h => hFc q h) hFc (fun r9 u t H3 locs ht9 hvm hw4 hB hz1 hk1 hSn => ?_)
    replace hP : va_P (dC, dI) clA [(b0, .inr (9, [.int 0, .int 0, .ref b1, .ref b2, .int 0, .int 0, .ref b3, .ref b4, .ref b5, .ref b6, .int 0, .ref b7, .ref b8, .ref b9, .ref b10, .ref b11, .ref b12, .ref b13, .int 0, .int 0, .ref b14, .ref b15, .long 0, .int 0, .int 0, .ref b16, .int (-1), .ref b17]))] H3 := pu_keep hP hk1
    replace hS := hSn
    clear hSn hPc hDc hFc hk1 hz1 ht9 hvm hB
    refine W.cs (cells' := 0) (slots' := 0) rfl rfl ?_
    subst hw4
    refine lv_if_ne (tgt := 29) hx hb d_Mo_takes_16 (by decide) (fun _ => ?_) (fun h => absurd h (by decide))
    refine lv_iconst (v := (-1)) hx hb d_Mo_takes_29 (by decide) ?_
    refine lv_goto (tgt := 44) hx hb d_Mo_takes_30 (by decide) ?_
    have hP9 := hP.sub (ws' := [(b0, .inr (9, [.int 0, .int 0, .ref b1, .ref b2, .int 0, .int 0, .ref b3, .ref b4, .ref b5, .ref b6, .int 0, .ref b7, .ref b8, .ref b9, .ref b10, .ref b11, .ref b12, .ref b13, .int 0, .int 0, .ref b14, .ref b15, .long 0, .int 0, .int 0, .ref b16, .int (-1), .ref b17]))]) [0] rfl
    have hD9 := hD.sub (ws' := [(b0, .inr (9, [.int 0, .int 0, .ref b1, .ref b2, .int 0, .int 0, .ref b3, .ref b4, .ref b5, .ref b6, .int 0, .ref b7, .ref b8, .ref b9, .ref b10, .ref b11, .ref b12, .ref b13, .int 0, .int 0, .ref b14, .ref b15, .long 0, .int 0, .int 0, .ref b16, .int (-1), .ref b17]))]) [0] (by decide) rfl
    exact W.iret (v := (-1)) hx hb hr (fun t ht9 hW => ⟨⟨(-1), (), rfl, rfl, by rw [ht9]; exact hP9, hD9⟩, hS.F ht9⟩) hS.2.2 d_Mo_takes_44
  · skip
    have hPc : va_P (dC, dI) clA [] _ := pu_P (H := H1)
    have hDc : va_D (fun _ => True) [] := pu_D
    have hFc := pu_free hS hA
    refine va_calli (va_runS (As := [.int k0, .int 0, .int (-1)]) (rest := []) ⟨hx, hb, hml, hown, ht⟩ (c_Mo_outside_0_m1_hi l dC dI cI cL cZ _ k0 hc2 (gb_lt (k := -1) (by decide) (by have ehc2 := fa_nlt (k := 0) (by decide) hc2; omega))) (va_cwS 3 ht (good_S wd_4_94 wd_4_95 wd_1_10 wd_4_96) rfl rfl rfl (by decide +kernel) ⟨Nat.le_of_ble_eq_true rfl, Nat.le_of_ble_eq_true rfl⟩) ⟨fun a U g mk q => by obtain ⟨q0, q1, qP, qK, qD, qN⟩ := q; exact ⟨q0, q1, qP, va_K.moved (u := U) (U := U.calling g mk a) (Vm.Alike.refl U.vm) qK, qD, NwA.same (u := U) rfl qN⟩, fun U hU hW => ⟨rfl, by rw [hU], by rw [hU]; exact hPc, va_K.moved hW.alike hK, hDc.weaken (fun _ _ _ _ => trivial), NwA.warm hW hN⟩⟩ rfl rfl hl.1 rfl (lv_room (Nat.le_of_ble_eq_true rfl)) d_Mo_takes_13 ⟨Nat.le_of_ble_eq_true rfl, Nat.le_of_ble_eq_true rfl⟩) hS (fun q _ h => hFc q h) hFc (fun r9 u t H5 locs ht9 hvm hw6 hB hz1 hk1 hSn => ?_)
    replace hP : va_P (dC, dI) clA [(b0, .inr (9, [.int 0, .int 0, .ref b1, .ref b2, .int 0, .int 0, .ref b3, .ref b4, .ref b5, .ref b6, .int 0, .ref b7, .ref b8, .ref b9, .ref b10, .ref b11, .ref b12, .ref b13, .int 0, .int 0, .ref b14, .ref b15, .long 0, .int 0, .int 0, .ref b16, .int (-1), .ref b17]))] H5 := pu_keep hP hk1
    replace hS := hSn
    clear hSn hPc hDc hFc hk1 hz1 ht9 hvm hB
    refine W.cs (cells' := 0) (slots' := 0) rfl rfl ?_
    subst hw6
    refine lv_if_ne (tgt := 29) hx hb d_Mo_takes_16 (by decide) (fun _ => ?_) (fun h => absurd h (by decide))
    refine lv_iconst (v := (-1)) hx hb d_Mo_takes_29 (by decide) ?_
    refine lv_goto (tgt := 44) hx hb d_Mo_takes_30 (by decide) ?_
    have hP9 := hP.sub (ws' := [(b0, .inr (9, [.int 0, .int 0, .ref b1, .ref b2, .int 0, .int 0, .ref b3, .ref b4, .ref b5, .ref b6, .int 0, .ref b7, .ref b8, .ref b9, .ref b10, .ref b11, .ref b12, .ref b13, .int 0, .int 0, .ref b14, .ref b15, .long 0, .int 0, .int 0, .ref b16, .int (-1), .ref b17]))]) [0] rfl
    have hD9 := hD.sub (ws' := [(b0, .inr (9, [.int 0, .int 0, .ref b1, .ref b2, .int 0, .int 0, .ref b3, .ref b4, .ref b5, .ref b6, .int 0, .ref b7, .ref b8, .ref b9, .ref b10, .ref b11, .ref b12, .ref b13, .int 0, .int 0, .ref b14, .ref b15, .long 0, .int 0, .int 0, .ref b16, .int (-1), .ref b17]))]) [0] (by decide) rfl
    exact W.iret (v := (-1)) hx hb hr (fun t ht9 hW => ⟨⟨(-1), (), rfl, rfl, by rw [ht9]; exact hP9, hD9⟩, hS.F ht9⟩) hS.2.2 d_Mo_takes_44

set_option maxHeartbeats 4000000 in
set_option maxRecDepth 100000 in
theorem c_Mo_condition (l : Launch) (dC : Nat → ClassId) (dI : Nat → Nat → Nat) (cI cL cZ : ClassId) (sz : Nat) (b0 : Nat) (b1 : Nat) (b2 : Nat) (b3 : Nat) (b4 : Nat) (b5 : Nat) (b6 : Nat) (b7 : Nat) (b8 : Nat) (b9 : Nat) (b10 : Nat) (b11 : Nat) (b12 : Nat) (b13 : Nat) (b14 : Nat) (b15 : Nat) (b16 : Nat) (b17 : Nat) (k0 : Int32) (k1 : Int32) : Met l y_Mo_condition_II (Cond.code y_Mo_condition_II prog_11_method_40_code 5 (some .int) :: wsA) { frames := 1, cells := 0, slots := 0, locals := 22 } (va_Pc [.ref b0, .int k0, .int k1] (fun U => U.heap.size = sz ∧ va_P (dC, dI) clA [(b0, .inr (9, [.int 0, .int 0, .ref b1, .ref b2, .int 0, .int 0, .ref b3, .ref b4, .ref b5, .ref b6, .int 0, .ref b7, .ref b8, .ref b9, .ref b10, .ref b11, .ref b12, .ref b13, .int 0, .int 0, .ref b14, .ref b15, .long 0, .int 0, .int 0, .ref b16, .int (-1), .ref b17]))] U.heap ∧ va_K (dC, dI) clA [(cI, .int), (cL, .long), (cZ, .boolean)] U ∧ va_D (fun _ => True) [(b0, .inr (9, [.int 0, .int 0, .ref b1, .ref b2, .int 0, .int 0, .ref b3, .ref b4, .ref b5, .ref b6, .int 0, .ref b7, .ref b8, .ref b9, .ref b10, .ref b11, .ref b12, .ref b13, .int 0, .int 0, .ref b14, .ref b15, .long 0, .int 0, .int 0, .ref b16, .int (-1), .ref b17]))] ∧ NwA U)) (va_Qi (fun r (_ : Unit) => r = (-1)) (fun _ t => va_P (dC, dI) clA [(b0, .inr (9, [.int 0, .int 0, .ref b1, .ref b2, .int 0, .int 0, .ref b3, .ref b4, .ref b5, .ref b6, .int 0, .ref b7, .ref b8, .ref b9, .ref b10, .ref b11, .ref b12, .ref b13, .int 0, .int 0, .ref b14, .ref b15, .long 0, .int 0, .int 0, .ref b16, .int (-1), .ref b17]))] t.heap ∧ va_D (va_A [(b0, .inr (9, [.int 0, .int 0, .ref b1, .ref b2, .int 0, .int 0, .ref b3, .ref b4, .ref b5, .ref b6, .int 0, .ref b7, .ref b8, .ref b9, .ref b10, .ref b11, .ref b12, .ref b13, .int 0, .int 0, .ref b14, .ref b15, .long 0, .int 0, .int 0, .ref b16, .int (-1), .ref b17]))] sz) [(b0, .inr (9, [.int 0, .int 0, .ref b1, .ref b2, .int 0, .int 0, .ref b3, .ref b4, .ref b5, .ref b6, .int 0, .ref b7, .ref b8, .ref b9, .ref b10, .ref b11, .ref b12, .ref b13, .int 0, .int 0, .ref b14, .ref b15, .long 0, .int 0, .int 0, .ref b16, .int (-1), .ref b17]))]) (va_A [(b0, .inr (9, [.int 0, .int 0, .ref b1, .ref b2, .int 0, .int 0, .ref b3, .ref b4, .ref b5, .ref b6, .int 0, .ref b7, .ref b8, .ref b9, .ref b10, .ref b11, .ref b12, .ref b13, .int 0, .int 0, .ref b14, .ref b15, .long 0, .int 0, .int 0, .ref b16, .int (-1), .ref b17]))] sz)) 0 0 (va_A [(b0, .inr (9, [.int 0, .int 0, .ref b1, .ref b2, .int 0, .int 0, .ref b3, .ref b4, .ref b5, .ref b6, .int 0, .ref b7, .ref b8, .ref b9, .ref b10, .ref b11, .ref b12, .ref b13, .int 0, .int 0, .ref b14, .ref b15, .long 0, .int 0, .int 0, .ref b16, .int (-1), .ref b17]))] sz) := by
  refine Met.ofW (cc := prog_11_method_40_code) (maxL := 5) (ret := (some .int)) (by decide) rfl ?_
  intro p e s m args below meth c s₁ B hml hv
  obtain ⟨rfl, hsz, hP, hK, hD0, hN⟩ := hv
  have hx := B.exec
  have hb := B.bytes
  have hr := B.returns
  have ht : ∀ w ∈ wsA, w.before _ s = true := fun w h => atoms_spec (ws := (Cond.code y_Mo_condition_II prog_11_method_40_code 5 (some .int) :: wsA)) B.pre w (List.mem_cons_of_mem _ h)
  have hown : s.vm.findClass "NetUnfolderModel" = some m.cls := findClass_of_methodNamed B.named
  have hlocks := B.notSynchronized
  subst hsz
  have hD := hD0.self (sz := s.heap.size)
  generalize hAe : va_A [(b0, .inr (9, [.int 0, .int 0, .ref b1, .ref b2, .int 0, .int 0, .ref b3, .ref b4, .ref b5, .ref b6, .int 0, .ref b7, .ref b8, .ref b9, .ref b10, .ref b11, .ref b12, .ref b13, .int 0, .int 0, .ref b14, .ref b15, .long 0, .int 0, .int 0, .ref b16, .int (-1), .ref b17]))] s.heap.size = A at hD ⊢
  have hA : ∀ q : Nat, s.heap.size ≤ q → A q := fun q h => by rw [← hAe]; exact Or.inr h
  have hS : va_S A s.heap s.heap [] := va_S.rf
  have hl := lv_entry ([.ref b0, .int k0, .int k1]) (n := 5) (Nat.le_of_ble_eq_true rfl)
  rw [lg_entry_eq]
  generalize (lg_sl ([.ref b0, .int k0, .int k1]) ++ List.replicate (5 - (lg_sl ([.ref b0, .int k0, .int k1])).length) Slot.unset).toArray = ls at hl ⊢
  replace hl : lv_has ls 5 [(0, .ref b0), (1, .int k0), (2, .int k1)] := hl
  refine lv_aload_n hx hb d_Mo_condition_II_0 rfl (lv_at hl 0 rfl) ?_
  refine lv_iconst (v := 0) hx hb d_Mo_condition_II_1 (by decide) ?_
  refine va_put (D := (dC, dI)) (ci := 9) (v := .int 0) (ty := .int) (C := "NetUnfolderModel") (T := T_Mo) (N := 28) hx hb ht in_Mo ty_Mo ok_Mo nm_Mo hown hK hP hD hS 0 rfl rfl 0 (by decide) (ht _ wd_4_0) (fun _ h9 => h9) rfl (by decide +kernel) rfl rfl (Nat.le_of_ble_eq_true rfl) d_Mo_condition_II_2 (fun H1 locs hPn hDn hSn => ?_)
  replace hP : va_P (dC, dI) clA [(b0, .inr (9, [.int 0, .int 0, .ref b1, .ref b2, .int 0, .int 0, .ref b3, .ref b4, .ref b5, .ref b6, .int 0, .ref b7, .ref b8, .ref b9, .ref b10, .ref b11, .ref b12, .ref b13, .int 0, .int 0, .ref b14, .ref b15, .long 0, .int 0, .int 0, .ref b16, .int (-1), .ref b17]))] H1 := hPn
  replace hD : va_D A [(b0, .inr (9, [.int 0, .int 0, .ref b1, .ref b2, .int 0, .int 0, .ref b3, .ref b4, .ref b5, .ref b6, .int 0, .ref b7, .ref b8, .ref b9, .ref b10, .ref b11, .ref b12, .ref b13, .int 0, .int 0, .ref b14, .ref b15, .long 0, .int 0, .int 0, .ref b16, .int (-1), .ref b17]))] := hDn
  replace hS := hSn
  clear hPn hDn hSn
  refine lv_iload_n hx hb d_Mo_condition_II_5 rfl (lv_at hl 1 rfl) ?_
  refine lv_iconst (v := 0) hx hb d_Mo_condition_II_6 (by decide) ?_
  refine lv_aload_n hx hb d_Mo_condition_II_7 rfl (lv_at hl 0 rfl) ?_
  refine va_get (D := (dC, dI)) (ci := 9) (v := .int 0) (C := "NetUnfolderModel") (T := T_Mo) (N := 28) hx hb ht in_Mo hown hK hP 0 rfl rfl 5 (by decide) (ht _ wd_4_5) (fun _ h9 => h9) rfl d_Mo_condition_II_8 ?_
  refine lv_iconst (v := 1) hx hb d_Mo_condition_II_11 (by decide) ?_
  refine lv_isub hx hb d_Mo_condition_II_12 ?_
  refine ci_i (y := (-1)) (by decide) ?_
  by_cases hc2 : k0 < 0
  · skip
    have hPc : va_P (dC, dI) clA [] _ := pu_P (H := H1)
    have hDc : va_D (fun _ => True) [] := pu_D
    have hFc := pu_free hS hA
    refine va_calli (va_runS (As := [.int k0, .int 0, .int (-1)]) (rest := []) ⟨hx, hb, hml, hown, ht⟩ (c_Mo_outside_0_m1_lo l dC dI cI cL cZ _ k0 hc2) (va_cwS 3 ht (good_S wd_4_94 wd_4_95 wd_1_10 wd_4_96) rfl rfl rfl (by decide +kernel) ⟨Nat.le_of_ble_eq_true rfl, Nat.le_of_ble_eq_true rfl⟩) ⟨fun a U g mk q => by obtain ⟨q0, q1, qP, qK, qD, qN⟩ := q; exact ⟨q0, q1, qP, va_K.moved (u := U) (U := U.calling g mk a) (Vm.Alike.refl U.vm) qK, qD, NwA.same (u := U) rfl qN⟩, fun U hU hW => ⟨rfl, by rw [hU], by rw [hU]; exact hPc, va_K.moved hW.alike hK, hDc.weaken (fun _ _ _ _ => trivial), NwA.warm hW hN⟩⟩ rfl rfl hl.1 rfl (lv_room (Nat.le_of_ble_eq_true rfl)) d_Mo_condition_II_13 ⟨Nat.le_of_ble_eq_true rfl, Nat.le_of_ble_eq_true rfl⟩) hS (fun q _ h => hFc q h) hFc (fun r9 u t H3 locs ht9 hvm hw4 hB hz1 hk1 hSn => ?_)
    replace hP : va_P (dC, dI) clA [(b0, .inr (9, [.int 0, .int 0, .ref b1, .ref b2, .int 0, .int 0, .ref b3, .ref b4, .ref b5, .ref b6, .int 0, .ref b7, .ref b8, .ref b9, .ref b10, .ref b11, .ref b12, .ref b13, .int 0, .int 0, .ref b14, .ref b15, .long 0, .int 0, .int 0, .ref b16, .int (-1), .ref b17]))] H3 := pu_keep hP hk1
    replace hS := hSn
    clear hSn hPc hDc hFc hk1 hz1 ht9 hvm hB
    refine W.cs (cells' := 0) (slots' := 0) rfl rfl ?_
    subst hw4
    refine lv_if_ne (tgt := 28) hx hb d_Mo_condition_II_16 (by decide) (fun _ => ?_) (fun h => absurd h (by decide))
    refine lv_iconst (v := (-1)) hx hb d_Mo_condition_II_28 (by decide) ?_
    have hP9 := hP.sub (ws' := [(b0, .inr (9, [.int 0, .int 0, .ref b1, .ref b2, .int 0, .int 0, .ref b3, .ref b4, .ref b5, .ref b6, .int 0, .ref b7, .ref b8, .ref b9, .ref b10, .ref b11, .ref b12, .ref b13, .int 0, .int 0, .ref b14, .ref b15, .long 0, .int 0, .int 0, .ref b16, .int (-1), .ref b17]))]) [0] rfl
    have hD9 := hD.sub (ws' := [(b0, .inr (9, [.int 0, .int 0, .ref b1, .ref b2, .int 0, .int 0, .ref b3, .ref b4, .ref b5, .ref b6, .int 0, .ref b7, .ref b8, .ref b9, .ref b10, .ref b11, .ref b12, .ref b13, .int 0, .int 0, .ref b14, .ref b15, .long 0, .int 0, .int 0, .ref b16, .int (-1), .ref b17]))]) [0] (by decide) rfl
    exact W.iret (v := (-1)) hx hb hr (fun t ht9 hW => ⟨⟨(-1), (), rfl, rfl, by rw [ht9]; exact hP9, hD9⟩, hS.F ht9⟩) hS.2.2 d_Mo_condition_II_29
  · skip
    have hPc : va_P (dC, dI) clA [] _ := pu_P (H := H1)
    have hDc : va_D (fun _ => True) [] := pu_D
    have hFc := pu_free hS hA
    refine va_calli (va_runS (As := [.int k0, .int 0, .int (-1)]) (rest := []) ⟨hx, hb, hml, hown, ht⟩ (c_Mo_outside_0_m1_hi l dC dI cI cL cZ _ k0 hc2 (gb_lt (k := -1) (by decide) (by have ehc2 := fa_nlt (k := 0) (by decide) hc2; omega))) (va_cwS 3 ht (good_S wd_4_94 wd_4_95 wd_1_10 wd_4_96) rfl rfl rfl (by decide +kernel) ⟨Nat.le_of_ble_eq_true rfl, Nat.le_of_ble_eq_true rfl⟩) ⟨fun a U g mk q => by obtain ⟨q0, q1, qP, qK, qD, qN⟩ := q; exact ⟨q0, q1, qP, va_K.moved (u := U) (U := U.calling g mk a) (Vm.Alike.refl U.vm) qK, qD, NwA.same (u := U) rfl qN⟩, fun U hU hW => ⟨rfl, by rw [hU], by rw [hU]; exact hPc, va_K.moved hW.alike hK, hDc.weaken (fun _ _ _ _ => trivial), NwA.warm hW hN⟩⟩ rfl rfl hl.1 rfl (lv_room (Nat.le_of_ble_eq_true rfl)) d_Mo_condition_II_13 ⟨Nat.le_of_ble_eq_true rfl, Nat.le_of_ble_eq_true rfl⟩) hS (fun q _ h => hFc q h) hFc (fun r9 u t H5 locs ht9 hvm hw6 hB hz1 hk1 hSn => ?_)
    replace hP : va_P (dC, dI) clA [(b0, .inr (9, [.int 0, .int 0, .ref b1, .ref b2, .int 0, .int 0, .ref b3, .ref b4, .ref b5, .ref b6, .int 0, .ref b7, .ref b8, .ref b9, .ref b10, .ref b11, .ref b12, .ref b13, .int 0, .int 0, .ref b14, .ref b15, .long 0, .int 0, .int 0, .ref b16, .int (-1), .ref b17]))] H5 := pu_keep hP hk1
    replace hS := hSn
    clear hSn hPc hDc hFc hk1 hz1 ht9 hvm hB
    refine W.cs (cells' := 0) (slots' := 0) rfl rfl ?_
    subst hw6
    refine lv_if_ne (tgt := 28) hx hb d_Mo_condition_II_16 (by decide) (fun _ => ?_) (fun h => absurd h (by decide))
    refine lv_iconst (v := (-1)) hx hb d_Mo_condition_II_28 (by decide) ?_
    have hP9 := hP.sub (ws' := [(b0, .inr (9, [.int 0, .int 0, .ref b1, .ref b2, .int 0, .int 0, .ref b3, .ref b4, .ref b5, .ref b6, .int 0, .ref b7, .ref b8, .ref b9, .ref b10, .ref b11, .ref b12, .ref b13, .int 0, .int 0, .ref b14, .ref b15, .long 0, .int 0, .int 0, .ref b16, .int (-1), .ref b17]))]) [0] rfl
    have hD9 := hD.sub (ws' := [(b0, .inr (9, [.int 0, .int 0, .ref b1, .ref b2, .int 0, .int 0, .ref b3, .ref b4, .ref b5, .ref b6, .int 0, .ref b7, .ref b8, .ref b9, .ref b10, .ref b11, .ref b12, .ref b13, .int 0, .int 0, .ref b14, .ref b15, .long 0, .int 0, .int 0, .ref b16, .int (-1), .ref b17]))]) [0] (by decide) rfl
    exact W.iret (v := (-1)) hx hb hr (fun t ht9 hW => ⟨⟨(-1), (), rfl, rfl, by rw [ht9]; exact hP9, hD9⟩, hS.F ht9⟩) hS.2.2 d_Mo_condition_II_29

set_option maxHeartbeats 4000000 in
set_option maxRecDepth 100000 in
theorem c_Mo_concurrent (l : Launch) (dC : Nat → ClassId) (dI : Nat → Nat → Nat) (cI cL cZ : ClassId) (sz : Nat) (b0 : Nat) (b1 : Nat) (b2 : Nat) (b3 : Nat) (b4 : Nat) (b5 : Nat) (b6 : Nat) (b7 : Nat) (b8 : Nat) (b9 : Nat) (b10 : Nat) (b11 : Nat) (b12 : Nat) (b13 : Nat) (b14 : Nat) (b15 : Nat) (b16 : Nat) (b17 : Nat) (k0 : Int32) (k1 : Int32) : Met l y_Mo_concurrent (Cond.code y_Mo_concurrent prog_11_method_41_code 3 (some .boolean) :: wsA) { frames := 1, cells := 0, slots := 0, locals := 22 } (va_Pc [.ref b0, .int k0, .int k1] (fun U => U.heap.size = sz ∧ va_P (dC, dI) clA [(b0, .inr (9, [.int 0, .int 0, .ref b1, .ref b2, .int 0, .int 0, .ref b3, .ref b4, .ref b5, .ref b6, .int 0, .ref b7, .ref b8, .ref b9, .ref b10, .ref b11, .ref b12, .ref b13, .int 0, .int 0, .ref b14, .ref b15, .long 0, .int 0, .int 0, .ref b16, .int (-1), .ref b17]))] U.heap ∧ va_K (dC, dI) clA [(cI, .int), (cL, .long), (cZ, .boolean)] U ∧ va_D (fun _ => True) [(b0, .inr (9, [.int 0, .int 0, .ref b1, .ref b2, .int 0, .int 0, .ref b3, .ref b4, .ref b5, .ref b6, .int 0, .ref b7, .ref b8, .ref b9, .ref b10, .ref b11, .ref b12, .ref b13, .int 0, .int 0, .ref b14, .ref b15, .long 0, .int 0, .int 0, .ref b16, .int (-1), .ref b17]))] ∧ NwA U)) (va_Qi (fun r (_ : Unit) => r = 0) (fun _ t => va_P (dC, dI) clA [(b0, .inr (9, [.int 0, .int 0, .ref b1, .ref b2, .int 0, .int 0, .ref b3, .ref b4, .ref b5, .ref b6, .int 0, .ref b7, .ref b8, .ref b9, .ref b10, .ref b11, .ref b12, .ref b13, .int 0, .int 0, .ref b14, .ref b15, .long 0, .int 0, .int 0, .ref b16, .int (-1), .ref b17]))] t.heap ∧ va_D (va_A [(b0, .inr (9, [.int 0, .int 0, .ref b1, .ref b2, .int 0, .int 0, .ref b3, .ref b4, .ref b5, .ref b6, .int 0, .ref b7, .ref b8, .ref b9, .ref b10, .ref b11, .ref b12, .ref b13, .int 0, .int 0, .ref b14, .ref b15, .long 0, .int 0, .int 0, .ref b16, .int (-1), .ref b17]))] sz) [(b0, .inr (9, [.int 0, .int 0, .ref b1, .ref b2, .int 0, .int 0, .ref b3, .ref b4, .ref b5, .ref b6, .int 0, .ref b7, .ref b8, .ref b9, .ref b10, .ref b11, .ref b12, .ref b13, .int 0, .int 0, .ref b14, .ref b15, .long 0, .int 0, .int 0, .ref b16, .int (-1), .ref b17]))]) (va_A [(b0, .inr (9, [.int 0, .int 0, .ref b1, .ref b2, .int 0, .int 0, .ref b3, .ref b4, .ref b5, .ref b6, .int 0, .ref b7, .ref b8, .ref b9, .ref b10, .ref b11, .ref b12, .ref b13, .int 0, .int 0, .ref b14, .ref b15, .long 0, .int 0, .int 0, .ref b16, .int (-1), .ref b17]))] sz)) 0 0 (va_A [(b0, .inr (9, [.int 0, .int 0, .ref b1, .ref b2, .int 0, .int 0, .ref b3, .ref b4, .ref b5, .ref b6, .int 0, .ref b7, .ref b8, .ref b9, .ref b10, .ref b11, .ref b12, .ref b13, .int 0, .int 0, .ref b14, .ref b15, .long 0, .int 0, .int 0, .ref b16, .int (-1), .ref b17]))] sz) := by
  refine Met.ofW (cc := prog_11_method_41_code) (maxL := 3) (ret := (some .boolean)) (by decide) rfl ?_
  intro p e s m args below meth c s₁ B hml hv
  obtain ⟨rfl, hsz, hP, hK, hD0, hN⟩ := hv
  have hx := B.exec
  have hb := B.bytes
  have hr := B.returns
  have ht : ∀ w ∈ wsA, w.before _ s = true := fun w h => atoms_spec (ws := (Cond.code y_Mo_concurrent prog_11_method_41_code 3 (some .boolean) :: wsA)) B.pre w (List.mem_cons_of_mem _ h)
  have hown : s.vm.findClass "NetUnfolderModel" = some m.cls := findClass_of_methodNamed B.named
  have hlocks := B.notSynchronized
  subst hsz
  have hD := hD0.self (sz := s.heap.size)
  generalize hAe : va_A [(b0, .inr (9, [.int 0, .int 0, .ref b1, .ref b2, .int 0, .int 0, .ref b3, .ref b4, .ref b5, .ref b6, .int 0, .ref b7, .ref b8, .ref b9, .ref b10, .ref b11, .ref b12, .ref b13, .int 0, .int 0, .ref b14, .ref b15, .long 0, .int 0, .int 0, .ref b16, .int (-1), .ref b17]))] s.heap.size = A at hD ⊢
  have hA : ∀ q : Nat, s.heap.size ≤ q → A q := fun q h => by rw [← hAe]; exact Or.inr h
  have hS : va_S A s.heap s.heap [] := va_S.rf
  have hl := lv_entry ([.ref b0, .int k0, .int k1]) (n := 3) (Nat.le_of_ble_eq_true rfl)
  rw [lg_entry_eq]
  generalize (lg_sl ([.ref b0, .int k0, .int k1]) ++ List.replicate (3 - (lg_sl ([.ref b0, .int k0, .int k1])).length) Slot.unset).toArray = ls at hl ⊢
  replace hl : lv_has ls 3 [(0, .ref b0), (1, .int k0), (2, .int k1)] := hl
  refine lv_aload_n hx hb d_Mo_concurrent_0 rfl (lv_at hl 0 rfl) ?_
  refine lv_iconst (v := 0) hx hb d_Mo_concurrent_1 (by decide) ?_
  refine va_put (D := (dC, dI)) (ci := 9) (v := .int 0) (ty := .int) (C := "NetUnfolderModel") (T := T_Mo) (N := 28) hx hb ht in_Mo ty_Mo ok_Mo nm_Mo hown hK hP hD hS 0 rfl rfl 0 (by decide) (ht _ wd_4_0) (fun _ h9 => h9) rfl (by decide +kernel) rfl rfl (Nat.le_of_ble_eq_true rfl) d_Mo_concurrent_2 (fun H1 locs hPn hDn hSn => ?_)
  replace hP : va_P (dC, dI) clA [(b0, .inr (9, [.int 0, .int 0, .ref b1, .ref b2, .int 0, .int 0, .ref b3, .ref b4, .ref b5, .ref b6, .int 0, .ref b7, .ref b8, .ref b9, .ref b10, .ref b11, .ref b12, .ref b13, .int 0, .int 0, .ref b14, .ref b15, .long 0, .int 0, .int 0, .ref b16, .int (-1), .ref b17]))] H1 := hPn
  replace hD : va_D A [(b0, .inr (9, [.int 0, .int 0, .ref b1, .ref b2, .int 0, .int 0, .ref b3, .ref b4, .ref b5, .ref b6, .int 0, .ref b7, .ref b8, .ref b9, .ref b10, .ref b11, .ref b12, .ref b13, .int 0, .int 0, .ref b14, .ref b15, .long 0, .int 0, .int 0, .ref b16, .int (-1), .ref b17]))] := hDn
  replace hS := hSn
  clear hPn hDn hSn
  refine lv_iload_n hx hb d_Mo_concurrent_5 rfl (lv_at hl 1 rfl) ?_
  refine lv_iconst (v := 0) hx hb d_Mo_concurrent_6 (by decide) ?_
  refine lv_aload_n hx hb d_Mo_concurrent_7 rfl (lv_at hl 0 rfl) ?_
  refine va_get (D := (dC, dI)) (ci := 9) (v := .int 0) (C := "NetUnfolderModel") (T := T_Mo) (N := 28) hx hb ht in_Mo hown hK hP 0 rfl rfl 5 (by decide) (ht _ wd_4_5) (fun _ h9 => h9) rfl d_Mo_concurrent_8 ?_
  refine lv_iconst (v := 1) hx hb d_Mo_concurrent_11 (by decide) ?_
  refine lv_isub hx hb d_Mo_concurrent_12 ?_
  refine ci_i (y := (-1)) (by decide) ?_
  by_cases hc2 : k0 < 0
  · skip
    have hPc : va_P (dC, dI) clA [] _ := pu_P (H := H1)
    have hDc : va_D (fun _ => True) [] := pu_D
    have hFc := pu_free hS hA
    refine va_calli (va_runS (As := [.int k0, .int 0, .int (-1)]) (rest := []) ⟨hx, hb, hml, hown, ht⟩ (c_Mo_outside_0_m1_lo l dC dI cI cL cZ _ k0 hc2) (va_cwS 3 ht (good_S wd_4_94 wd_4_95 wd_1_10 wd_4_96) rfl rfl rfl (by decide +kernel) ⟨Nat.le_of_ble_eq_true rfl, Nat.le_of_ble_eq_true rfl⟩) ⟨fun a U g mk q => by obtain ⟨q0, q1, qP, qK, qD, qN⟩ := q; exact ⟨q0, q1, qP, va_K.moved (u := U) (U := U.calling g mk a) (Vm.Alike.refl U.vm) qK, qD, NwA.same (u := U) rfl qN⟩, fun U hU hW => ⟨rfl, by rw [hU], by rw [hU]; exact hPc, va_K.moved hW.alike hK, hDc.weaken (fun _ _ _ _ => trivial), NwA.warm hW hN⟩⟩ rfl rfl hl.1 rfl (lv_room (Nat.le_of_ble_eq_true rfl)) d_Mo_concurrent_13 ⟨Nat.le_of_ble_eq_true rfl, Nat.le_of_ble_eq_true rfl⟩) hS (fun q _ h => hFc q h) hFc (fun r9 u t H3 locs ht9 hvm hw4 hB hz1 hk1 hSn => ?_)
    replace hP : va_P (dC, dI) clA [(b0, .inr (9, [.int 0, .int 0, .ref b1, .ref b2, .int 0, .int 0, .ref b3, .ref b4, .ref b5, .ref b6, .int 0, .ref b7, .ref b8, .ref b9, .ref b10, .ref b11, .ref b12, .ref b13, .int 0, .int 0, .ref b14, .ref b15, .long 0, .int 0, .int 0, .ref b16, .int (-1), .ref b17]))] H3 := pu_keep hP hk1
    replace hS := hSn
    clear hSn hPc hDc hFc hk1 hz1 ht9 hvm hB
    refine W.cs (cells' := 0) (slots' := 0) rfl rfl ?_
    subst hw4
    refine lv_if_ne (tgt := 50) hx hb d_Mo_concurrent_16 (by decide) (fun _ => ?_) (fun h => absurd h (by decide))
    refine lv_iconst (v := 0) hx hb d_Mo_concurrent_50 (by decide) ?_
    have hP9 := hP.sub (ws' := [(b0, .inr (9, [.int 0, .int 0, .ref b1, .ref b2, .int 0, .int 0, .ref b3, .ref b4, .ref b5, .ref b6, .int 0, .ref b7, .ref b8, .ref b9, .ref b10, .ref b11, .ref b12, .ref b13, .int 0, .int 0, .ref b14, .ref b15, .long 0, .int 0, .int 0, .ref b16, .int (-1), .ref b17]))]) [0] rfl
    have hD9 := hD.sub (ws' := [(b0, .inr (9, [.int 0, .int 0, .ref b1, .ref b2, .int 0, .int 0, .ref b3, .ref b4, .ref b5, .ref b6, .int 0, .ref b7, .ref b8, .ref b9, .ref b10, .ref b11, .ref b12, .ref b13, .int 0, .int 0, .ref b14, .ref b15, .long 0, .int 0, .int 0, .ref b16, .int (-1), .ref b17]))]) [0] (by decide) rfl
    exact W.zret (v := 0) hx hb hr rfl (fun t ht9 hW => ⟨⟨0, (), rfl, rfl, by rw [ht9]; exact hP9, hD9⟩, hS.F ht9⟩) hS.2.2 d_Mo_concurrent_51
  · skip
    have hPc : va_P (dC, dI) clA [] _ := pu_P (H := H1)
    have hDc : va_D (fun _ => True) [] := pu_D
    have hFc := pu_free hS hA
    refine va_calli (va_runS (As := [.int k0, .int 0, .int (-1)]) (rest := []) ⟨hx, hb, hml, hown, ht⟩ (c_Mo_outside_0_m1_hi l dC dI cI cL cZ _ k0 hc2 (gb_lt (k := -1) (by decide) (by have ehc2 := fa_nlt (k := 0) (by decide) hc2; omega))) (va_cwS 3 ht (good_S wd_4_94 wd_4_95 wd_1_10 wd_4_96) rfl rfl rfl (by decide +kernel) ⟨Nat.le_of_ble_eq_true rfl, Nat.le_of_ble_eq_true rfl⟩) ⟨fun a U g mk q => by obtain ⟨q0, q1, qP, qK, qD, qN⟩ := q; exact ⟨q0, q1, qP, va_K.moved (u := U) (U := U.calling g mk a) (Vm.Alike.refl U.vm) qK, qD, NwA.same (u := U) rfl qN⟩, fun U hU hW => ⟨rfl, by rw [hU], by rw [hU]; exact hPc, va_K.moved hW.alike hK, hDc.weaken (fun _ _ _ _ => trivial), NwA.warm hW hN⟩⟩ rfl rfl hl.1 rfl (lv_room (Nat.le_of_ble_eq_true rfl)) d_Mo_concurrent_13 ⟨Nat.le_of_ble_eq_true rfl, Nat.le_of_ble_eq_true rfl⟩) hS (fun q _ h => hFc q h) hFc (fun r9 u t H5 locs ht9 hvm hw6 hB hz1 hk1 hSn => ?_)
    replace hP : va_P (dC, dI) clA [(b0, .inr (9, [.int 0, .int 0, .ref b1, .ref b2, .int 0, .int 0, .ref b3, .ref b4, .ref b5, .ref b6, .int 0, .ref b7, .ref b8, .ref b9, .ref b10, .ref b11, .ref b12, .ref b13, .int 0, .int 0, .ref b14, .ref b15, .long 0, .int 0, .int 0, .ref b16, .int (-1), .ref b17]))] H5 := pu_keep hP hk1
    replace hS := hSn
    clear hSn hPc hDc hFc hk1 hz1 ht9 hvm hB
    refine W.cs (cells' := 0) (slots' := 0) rfl rfl ?_
    subst hw6
    refine lv_if_ne (tgt := 50) hx hb d_Mo_concurrent_16 (by decide) (fun _ => ?_) (fun h => absurd h (by decide))
    refine lv_iconst (v := 0) hx hb d_Mo_concurrent_50 (by decide) ?_
    have hP9 := hP.sub (ws' := [(b0, .inr (9, [.int 0, .int 0, .ref b1, .ref b2, .int 0, .int 0, .ref b3, .ref b4, .ref b5, .ref b6, .int 0, .ref b7, .ref b8, .ref b9, .ref b10, .ref b11, .ref b12, .ref b13, .int 0, .int 0, .ref b14, .ref b15, .long 0, .int 0, .int 0, .ref b16, .int (-1), .ref b17]))]) [0] rfl
    have hD9 := hD.sub (ws' := [(b0, .inr (9, [.int 0, .int 0, .ref b1, .ref b2, .int 0, .int 0, .ref b3, .ref b4, .ref b5, .ref b6, .int 0, .ref b7, .ref b8, .ref b9, .ref b10, .ref b11, .ref b12, .ref b13, .int 0, .int 0, .ref b14, .ref b15, .long 0, .int 0, .int 0, .ref b16, .int (-1), .ref b17]))]) [0] (by decide) rfl
    exact W.zret (v := 0) hx hb hr rfl (fun t ht9 hW => ⟨⟨0, (), rfl, rfl, by rw [ht9]; exact hP9, hD9⟩, hS.F ht9⟩) hS.2.2 d_Mo_concurrent_51
