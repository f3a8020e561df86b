set_option maxHeartbeats 4000000 in
set_option maxRecDepth 100000 in
theorem c_Mo_outside_1_255_lo (l : Launch) (dC : Nat → ClassId) (dI : Nat → Nat → Nat) (cI cL cZ : ClassId) (sz : Nat) (k0 : Int32) (h1 : k0 < 1) : Met l y_Mo_outside (Cond.code y_Mo_outside prog_11_method_4_code 3 (some .boolean) :: wsA) { frames := 0, cells := 0, slots := 0, locals := 0 } (va_Pc [.int k0, .int 1, .int 255] (fun U => U.heap.size = sz ∧ va_P (dC, dI) clA [] U.heap ∧ va_K (dC, dI) clA [(cI, .int), (cL, .long), (cZ, .boolean)] U ∧ va_D (fun _ => True) [] ∧ NwA U)) (va_Qi (fun r (_ : Unit) => r = 1) (fun _ t => va_P (dC, dI) clA [] t.heap ∧ va_D (va_A [] sz) []) (va_A [] sz)) 0 0 (va_A [] sz) := by
  refine Met.ofW (cc := prog_11_method_4_code) (maxL := 3) (ret := (some .boolean)) (by decide) rfl ?_
  intro p e s m args below meth c s₁ B hml hv
  obtain ⟨rfl, hsz, hP, hK, hD0, hN⟩ := hv
  have hx := B.exec
  have hb := B.bytes
  have hr := B.returns
  have ht : ∀ w ∈ wsA, w.before _ s = true := fun w h => atoms_spec (ws := (Cond.code y_Mo_outside prog_11_method_4_code 3 (some .boolean) :: wsA)) B.pre w (List.mem_cons_of_mem _ h)
  have hown : s.vm.findClass "NetUnfolderModel" = some m.cls := findClass_of_methodNamed B.named
  have hlocks := B.notSynchronized
  subst hsz
  have hD := hD0.self (sz := s.heap.size)
  generalize hAe : va_A [] s.heap.size = A at hD ⊢
  have hA : ∀ q : Nat, s.heap.size ≤ q → A q := fun q h => by rw [← hAe]; exact Or.inr h
  have hS : va_S A s.heap s.heap [] := va_S.rf
  have hl := lv_entry ([.int k0, .int 1, .int 255]) (n := 3) (Nat.le_of_ble_eq_true rfl)
  rw [lg_entry_eq]
  generalize (lg_sl ([.int k0, .int 1, .int 255]) ++ List.replicate (3 - (lg_sl ([.int k0, .int 1, .int 255])).length) Slot.unset).toArray = ls at hl ⊢
  replace hl : lv_has ls 3 [(0, .int k0), (1, .int 1), (2, .int 255)] := hl
  refine lv_iload_n hx hb d_Mo_outside_0 rfl (lv_at hl 0 rfl) ?_
  refine lv_iload_n hx hb d_Mo_outside_1 rfl (lv_at hl 1 rfl) ?_
  refine lv_icmp_lt (tgt := 10) hx hb d_Mo_outside_2 (by decide) (fun _ => ?_) (fun h9 => (by exfalso; have eh1 := fa_lt (k := 1) (by decide) h1; have eh9 := fa_nlt (k := 1) (by decide) h9; omega))
  refine lv_iconst (v := 1) hx hb d_Mo_outside_10 (by decide) ?_
  refine lv_goto (tgt := 15) hx hb d_Mo_outside_11 (by decide) ?_
  have hP9 := hP.sub (ws' := []) [] rfl
  have hD9 := hD.sub (ws' := []) [] (by decide) rfl
  exact W.zret (v := 1) hx hb hr rfl (fun t ht9 hW => ⟨⟨1, (), rfl, rfl, by rw [ht9]; exact hP9, hD9⟩, hS.F ht9⟩) hS.2.2 d_Mo_outside_15

set_option maxHeartbeats 4000000 in
set_option maxRecDepth 100000 in
theorem c_Mo_outside_1_255_hi (l : Launch) (dC : Nat → ClassId) (dI : Nat → Nat → Nat) (cI cL cZ : ClassId) (sz : Nat) (k0 : Int32) (h1 : ¬ k0 < 1) (h2 : 255 < k0) : Met l y_Mo_outside (Cond.code y_Mo_outside prog_11_method_4_code 3 (some .boolean) :: wsA) { frames := 0, cells := 0, slots := 0, locals := 0 } (va_Pc [.int k0, .int 1, .int 255] (fun U => U.heap.size = sz ∧ va_P (dC, dI) clA [] U.heap ∧ va_K (dC, dI) clA [(cI, .int), (cL, .long), (cZ, .boolean)] U ∧ va_D (fun _ => True) [] ∧ NwA U)) (va_Qi (fun r (_ : Unit) => r = 1) (fun _ t => va_P (dC, dI) clA [] t.heap ∧ va_D (va_A [] sz) []) (va_A [] sz)) 0 0 (va_A [] sz) := by
  refine Met.ofW (cc := prog_11_method_4_code) (maxL := 3) (ret := (some .boolean)) (by decide) rfl ?_
  intro p e s m args below meth c s₁ B hml hv
  obtain ⟨rfl, hsz, hP, hK, hD0, hN⟩ := hv
  have hx := B.exec
  have hb := B.bytes
  have hr := B.returns
  have ht : ∀ w ∈ wsA, w.before _ s = true := fun w h => atoms_spec (ws := (Cond.code y_Mo_outside prog_11_method_4_code 3 (some .boolean) :: wsA)) B.pre w (List.mem_cons_of_mem _ h)
  have hown : s.vm.findClass "NetUnfolderModel" = some m.cls := findClass_of_methodNamed B.named
  have hlocks := B.notSynchronized
  subst hsz
  have hD := hD0.self (sz := s.heap.size)
  generalize hAe : va_A [] s.heap.size = A at hD ⊢
  have hA : ∀ q : Nat, s.heap.size ≤ q → A q := fun q h => by rw [← hAe]; exact Or.inr h
  have hS : va_S A s.heap s.heap [] := va_S.rf
  have hl := lv_entry ([.int k0, .int 1, .int 255]) (n := 3) (Nat.le_of_ble_eq_true rfl)
  rw [lg_entry_eq]
  generalize (lg_sl ([.int k0, .int 1, .int 255]) ++ List.replicate (3 - (lg_sl ([.int k0, .int 1, .int 255])).length) Slot.unset).toArray = ls at hl ⊢
  replace hl : lv_has ls 3 [(0, .int k0), (1, .int 1), (2, .int 255)] := hl
  refine lv_iload_n hx hb d_Mo_outside_0 rfl (lv_at hl 0 rfl) ?_
  refine lv_iload_n hx hb d_Mo_outside_1 rfl (lv_at hl 1 rfl) ?_
  refine lv_icmp_lt (tgt := 10) hx hb d_Mo_outside_2 (by decide) (fun h9 => (by exfalso; have eh1 := fa_nlt (k := 1) (by decide) h1; have eh2 := fb_lt (k := 255) (by decide) h2; have eh9 := fa_lt (k := 1) (by decide) h9; omega)) (fun _ => ?_)
  refine lv_iload_n hx hb d_Mo_outside_5 rfl (lv_at hl 0 rfl) ?_
  refine lv_iload_n hx hb d_Mo_outside_6 rfl (lv_at hl 2 rfl) ?_
  refine lv_icmp_le (tgt := 14) hx hb d_Mo_outside_7 (by decide) (fun h9 => (by exfalso; have eh1 := fa_nlt (k := 1) (by decide) h1; have eh2 := fb_lt (k := 255) (by decide) h2; have eh9 := fa_le (k := 255) (by decide) h9; omega)) (fun _ => ?_)
  refine lv_iconst (v := 1) hx hb d_Mo_outside_10 (by decide) ?_
  refine lv_goto (tgt := 15) hx hb d_Mo_outside_11 (by decide) ?_
  have hP9 := hP.sub (ws' := []) [] rfl
  have hD9 := hD.sub (ws' := []) [] (by decide) rfl
  exact W.zret (v := 1) hx hb hr rfl (fun t ht9 hW => ⟨⟨1, (), rfl, rfl, by rw [ht9]; exact hP9, hD9⟩, hS.F ht9⟩) hS.2.2 d_Mo_outside_15

set_option maxHeartbeats 4000000 in
set_option maxRecDepth 100000 in
theorem c_Mo_outside_1_255_ok (l : Launch) (dC : Nat → ClassId) (dI : Nat → Nat → Nat) (cI cL cZ : ClassId) (sz : Nat) (k0 : Int32) (h1 : ¬ k0 < 1) (h2 : ¬ 255 < k0) : Met l y_Mo_outside (Cond.code y_Mo_outside prog_11_method_4_code 3 (some .boolean) :: wsA) { frames := 0, cells := 0, slots := 0, locals := 0 } (va_Pc [.int k0, .int 1, .int 255] (fun U => U.heap.size = sz ∧ va_P (dC, dI) clA [] U.heap ∧ va_K (dC, dI) clA [(cI, .int), (cL, .long), (cZ, .boolean)] U ∧ va_D (fun _ => True) [] ∧ NwA U)) (va_Qi (fun r (_ : Unit) => r = 0) (fun _ t => va_P (dC, dI) clA [] t.heap ∧ va_D (va_A [] sz) []) (va_A [] sz)) 0 0 (va_A [] sz) := by
  refine Met.ofW (cc := prog_11_method_4_code) (maxL := 3) (ret := (some .boolean)) (by decide) rfl ?_
  intro p e s m args below meth c s₁ B hml hv
  obtain ⟨rfl, hsz, hP, hK, hD0, hN⟩ := hv
  have hx := B.exec
  have hb := B.bytes
  have hr := B.returns
  have ht : ∀ w ∈ wsA, w.before _ s = true := fun w h => atoms_spec (ws := (Cond.code y_Mo_outside prog_11_method_4_code 3 (some .boolean) :: wsA)) B.pre w (List.mem_cons_of_mem _ h)
  have hown : s.vm.findClass "NetUnfolderModel" = some m.cls := findClass_of_methodNamed B.named
  have hlocks := B.notSynchronized
  subst hsz
  have hD := hD0.self (sz := s.heap.size)
  generalize hAe : va_A [] s.heap.size = A at hD ⊢
  have hA : ∀ q : Nat, s.heap.size ≤ q → A q := fun q h => by rw [← hAe]; exact Or.inr h
  have hS : va_S A s.heap s.heap [] := va_S.rf
  have hl := lv_entry ([.int k0, .int 1, .int 255]) (n := 3) (Nat.le_of_ble_eq_true rfl)
  rw [lg_entry_eq]
  generalize (lg_sl ([.int k0, .int 1, .int 255]) ++ List.replicate (3 - (lg_sl ([.int k0, .int 1, .int 255])).length) Slot.unset).toArray = ls at hl ⊢
  replace hl : lv_has ls 3 [(0, .int k0), (1, .int 1), (2, .int 255)] := hl
  refine lv_iload_n hx hb d_Mo_outside_0 rfl (lv_at hl 0 rfl) ?_
  refine lv_iload_n hx hb d_Mo_outside_1 rfl (lv_at hl 1 rfl) ?_
  refine lv_icmp_lt (tgt := 10) hx hb d_Mo_outside_2 (by decide) (fun h9 => (by exfalso; have eh1 := fa_nlt (k := 1) (by decide) h1; have eh2 := fb_nlt (k := 255) (by decide) h2; have eh9 := fa_lt (k := 1) (by decide) h9; omega)) (fun _ => ?_)
  refine lv_iload_n hx hb d_Mo_outside_5 rfl (lv_at hl 0 rfl) ?_
  refine lv_iload_n hx hb d_Mo_outside_6 rfl (lv_at hl 2 rfl) ?_
  refine lv_icmp_le (tgt := 14) hx hb d_Mo_outside_7 (by decide) (fun _ => ?_) (fun h9 => (by exfalso; have eh1 := fa_nlt (k := 1) (by decide) h1; have eh2 := fb_nlt (k := 255) (by decide) h2; have eh9 := fa_nle (k := 255) (by decide) h9; omega))
  refine lv_iconst (v := 0) hx hb d_Mo_outside_14 (by decide) ?_
  have hP9 := hP.sub (ws' := []) [] rfl
  have hD9 := hD.sub (ws' := []) [] (by decide) rfl
  exact W.zret (v := 0) hx hb hr rfl (fun t ht9 hW => ⟨⟨0, (), rfl, rfl, by rw [ht9]; exact hP9, hD9⟩, hS.F ht9⟩) hS.2.2 d_Mo_outside_15

set_option maxHeartbeats 4000000 in
set_option maxRecDepth 100000 in
theorem c_Mo_outside_0_255_lo (l : Launch) (dC : Nat → ClassId) (dI : Nat → Nat → Nat) (cI cL cZ : ClassId) (sz : Nat) (k0 : Int32) (h1 : k0 < 0) : Met l y_Mo_outside (Cond.code y_Mo_outside prog_11_method_4_code 3 (some .boolean) :: wsA) { frames := 0, cells := 0, slots := 0, locals := 0 } (va_Pc [.int k0, .int 0, .int 255] (fun U => U.heap.size = sz ∧ va_P (dC, dI) clA [] U.heap ∧ va_K (dC, dI) clA [(cI, .int), (cL, .long), (cZ, .boolean)] U ∧ va_D (fun _ => True) [] ∧ NwA U)) (va_Qi (fun r (_ : Unit) => r = 1) (fun _ t => va_P (dC, dI) clA [] t.heap ∧ va_D (va_A [] sz) []) (va_A [] sz)) 0 0 (va_A [] sz) := by
  refine Met.ofW (cc := prog_11_method_4_code) (maxL := 3) (ret := (some .boolean)) (by decide) rfl ?_
  intro p e s m args below meth c s₁ B hml hv
  obtain ⟨rfl, hsz, hP, hK, hD0, hN⟩ := hv
  have hx := B.exec
  have hb := B.bytes
  have hr := B.returns
  have ht : ∀ w ∈ wsA, w.before _ s = true := fun w h => atoms_spec (ws := (Cond.code y_Mo_outside prog_11_method_4_code 3 (some .boolean) :: wsA)) B.pre w (List.mem_cons_of_mem _ h)
  have hown : s.vm.findClass "NetUnfolderModel" = some m.cls := findClass_of_methodNamed B.named
  have hlocks := B.notSynchronized
  subst hsz
  have hD := hD0.self (sz := s.heap.size)
  generalize hAe : va_A [] s.heap.size = A at hD ⊢
  have hA : ∀ q : Nat, s.heap.size ≤ q → A q := fun q h => by rw [← hAe]; exact Or.inr h
  have hS : va_S A s.heap s.heap [] := va_S.rf
  have hl := lv_entry ([.int k0, .int 0, .int 255]) (n := 3) (Nat.le_of_ble_eq_true rfl)
  rw [lg_entry_eq]
  generalize (lg_sl ([.int k0, .int 0, .int 255]) ++ List.replicate (3 - (lg_sl ([.int k0, .int 0, .int 255])).length) Slot.unset).toArray = ls at hl ⊢
  replace hl : lv_has ls 3 [(0, .int k0), (1, .int 0), (2, .int 255)] := hl
  refine lv_iload_n hx hb d_Mo_outside_0 rfl (lv_at hl 0 rfl) ?_
  refine lv_iload_n hx hb d_Mo_outside_1 rfl (lv_at hl 1 rfl) ?_
  refine lv_icmp_lt (tgt := 10) hx hb d_Mo_outside_2 (by decide) (fun _ => ?_) (fun h9 => (by exfalso; have eh1 := fa_lt (k := 0) (by decide) h1; have eh9 := fa_nlt (k := 0) (by decide) h9; omega))
  refine lv_iconst (v := 1) hx hb d_Mo_outside_10 (by decide) ?_
  refine lv_goto (tgt := 15) hx hb d_Mo_outside_11 (by decide) ?_
  have hP9 := hP.sub (ws' := []) [] rfl
  have hD9 := hD.sub (ws' := []) [] (by decide) rfl
  exact W.zret (v := 1) hx hb hr rfl (fun t ht9 hW => ⟨⟨1, (), rfl, rfl, by rw [ht9]; exact hP9, hD9⟩, hS.F ht9⟩) hS.2.2 d_Mo_outside_15

set_option maxHeartbeats 4000000 in
set_option maxRecDepth 100000 in
theorem c_Mo_outside_0_255_hi (l : Launch) (dC : Nat → ClassId) (dI : Nat → Nat → Nat) (cI cL cZ : ClassId) (sz : Nat) (k0 : Int32) (h1 : ¬ k0 < 0) (h2 : 255 < k0) : Met l y_Mo_outside (Cond.code y_Mo_outside prog_11_method_4_code 3 (some .boolean) :: wsA) { frames := 0, cells := 0, slots := 0, locals := 0 } (va_Pc [.int k0, .int 0, .int 255] (fun U => U.heap.size = sz ∧ va_P (dC, dI) clA [] U.heap ∧ va_K (dC, dI) clA [(cI, .int), (cL, .long), (cZ, .boolean)] U ∧ va_D (fun _ => True) [] ∧ NwA U)) (va_Qi (fun r (_ : Unit) => r = 1) (fun _ t => va_P (dC, dI) clA [] t.heap ∧ va_D (va_A [] sz) []) (va_A [] sz)) 0 0 (va_A [] sz) := by
  refine Met.ofW (cc := prog_11_method_4_code) (maxL := 3) (ret := (some .boolean)) (by decide) rfl ?_
  intro p e s m args below meth c s₁ B hml hv
  obtain ⟨rfl, hsz, hP, hK, hD0, hN⟩ := hv
  have hx := B.exec
  have hb := B.bytes
  have hr := B.returns
  have ht : ∀ w ∈ wsA, w.before _ s = true := fun w h => atoms_spec (ws := (Cond.code y_Mo_outside prog_11_method_4_code 3 (some .boolean) :: wsA)) B.pre w (List.mem_cons_of_mem _ h)
  have hown : s.vm.findClass "NetUnfolderModel" = some m.cls := findClass_of_methodNamed B.named
  have hlocks := B.notSynchronized
  subst hsz
  have hD := hD0.self (sz := s.heap.size)
  generalize hAe : va_A [] s.heap.size = A at hD ⊢
  have hA : ∀ q : Nat, s.heap.size ≤ q → A q := fun q h => by rw [← hAe]; exact Or.inr h
  have hS : va_S A s.heap s.heap [] := va_S.rf
  have hl := lv_entry ([.int k0, .int 0, .int 255]) (n := 3) (Nat.le_of_ble_eq_true rfl)
  rw [lg_entry_eq]
  generalize (lg_sl ([.int k0, .int 0, .int 255]) ++ List.replicate (3 - (lg_sl ([.int k0, .int 0, .int 255])).length) Slot.unset).toArray = ls at hl ⊢
  replace hl : lv_has ls 3 [(0, .int k0), (1, .int 0), (2, .int 255)] := hl
  refine lv_iload_n hx hb d_Mo_outside_0 rfl (lv_at hl 0 rfl) ?_
  refine lv_iload_n hx hb d_Mo_outside_1 rfl (lv_at hl 1 rfl) ?_
  refine lv_icmp_lt (tgt := 10) hx hb d_Mo_outside_2 (by decide) (fun h9 => (by exfalso; have eh1 := fa_nlt (k := 0) (by decide) h1; have eh2 := fb_lt (k := 255) (by decide) h2; have eh9 := fa_lt (k := 0) (by decide) h9; omega)) (fun _ => ?_)
  refine lv_iload_n hx hb d_Mo_outside_5 rfl (lv_at hl 0 rfl) ?_
  refine lv_iload_n hx hb d_Mo_outside_6 rfl (lv_at hl 2 rfl) ?_
  refine lv_icmp_le (tgt := 14) hx hb d_Mo_outside_7 (by decide) (fun h9 => (by exfalso; have eh1 := fa_nlt (k := 0) (by decide) h1; have eh2 := fb_lt (k := 255) (by decide) h2; have eh9 := fa_le (k := 255) (by decide) h9; omega)) (fun _ => ?_)
  refine lv_iconst (v := 1) hx hb d_Mo_outside_10 (by decide) ?_
  refine lv_goto (tgt := 15) hx hb d_Mo_outside_11 (by decide) ?_
  have hP9 := hP.sub (ws' := []) [] rfl
  have hD9 := hD.sub (ws' := []) [] (by decide) rfl
  exact W.zret (v := 1) hx hb hr rfl (fun t ht9 hW => ⟨⟨1, (), rfl, rfl, by rw [ht9]; exact hP9, hD9⟩, hS.F ht9⟩) hS.2.2 d_Mo_outside_15

set_option maxHeartbeats 4000000 in
set_option maxRecDepth 100000 in
theorem c_Mo_outside_0_255_ok (l : Launch) (dC : Nat → ClassId) (dI : Nat → Nat → Nat) (cI cL cZ : ClassId) (sz : Nat) (k0 : Int32) (h1 : ¬ k0 < 0) (h2 : ¬ 255 < k0) : Met l y_Mo_outside (Cond.code y_Mo_outside prog_11_method_4_code 3 (some .boolean) :: wsA) { frames := 0, cells := 0, slots := 0, locals := 0 } (va_Pc [.int k0, .int 0, .int 255] (fun U => U.heap.size = sz ∧ va_P (dC, dI) clA [] U.heap ∧ va_K (dC, dI) clA [(cI, .int), (cL, .long), (cZ, .boolean)] U ∧ va_D (fun _ => True) [] ∧ NwA U)) (va_Qi (fun r (_ : Unit) => r = 0) (fun _ t => va_P (dC, dI) clA [] t.heap ∧ va_D (va_A [] sz) []) (va_A [] sz)) 0 0 (va_A [] sz) := by
  refine Met.ofW (cc := prog_11_method_4_code) (maxL := 3) (ret := (some .boolean)) (by decide) rfl ?_
  intro p e s m args below meth c s₁ B hml hv
  obtain ⟨rfl, hsz, hP, hK, hD0, hN⟩ := hv
  have hx := B.exec
  have hb := B.bytes
  have hr := B.returns
  have ht : ∀ w ∈ wsA, w.before _ s = true := fun w h => atoms_spec (ws := (Cond.code y_Mo_outside prog_11_method_4_code 3 (some .boolean) :: wsA)) B.pre w (List.mem_cons_of_mem _ h)
  have hown : s.vm.findClass "NetUnfolderModel" = some m.cls := findClass_of_methodNamed B.named
  have hlocks := B.notSynchronized
  subst hsz
  have hD := hD0.self (sz := s.heap.size)
  generalize hAe : va_A [] s.heap.size = A at hD ⊢
  have hA : ∀ q : Nat, s.heap.size ≤ q → A q := fun q h => by rw [← hAe]; exact Or.inr h
  have hS : va_S A s.heap s.heap [] := va_S.rf
  have hl := lv_entry ([.int k0, .int 0, .int 255]) (n := 3) (Nat.le_of_ble_eq_true rfl)
  rw [lg_entry_eq]
  generalize (lg_sl ([.int k0, .int 0, .int 255]) ++ List.replicate (3 - (lg_sl ([.int k0, .int 0, .int 255])).length) Slot.unset).toArray = ls at hl ⊢
  replace hl : lv_has ls 3 [(0, .int k0), (1, .int 0), (2, .int 255)] := hl
  refine lv_iload_n hx hb d_Mo_outside_0 rfl (lv_at hl 0 rfl) ?_
  refine lv_iload_n hx hb d_Mo_outside_1 rfl (lv_at hl 1 rfl) ?_
  refine lv_icmp_lt (tgt := 10) hx hb d_Mo_outside_2 (by decide) (fun h9 => (by exfalso; have eh1 := fa_nlt (k := 0) (by decide) h1; have eh2 := fb_nlt (k := 255) (by decide) h2; have eh9 := fa_lt (k := 0) (by decide) h9; omega)) (fun _ => ?_)
  refine lv_iload_n hx hb d_Mo_outside_5 rfl (lv_at hl 0 rfl) ?_
  refine lv_iload_n hx hb d_Mo_outside_6 rfl (lv_at hl 2 rfl) ?_
  refine lv_icmp_le (tgt := 14) hx hb d_Mo_outside_7 (by decide) (fun _ => ?_) (fun h9 => (by exfalso; have eh1 := fa_nlt (k := 0) (by decide) h1; have eh2 := fb_nlt (k := 255) (by decide) h2; have eh9 := fa_nle (k := 255) (by decide) h9; omega))
  refine lv_iconst (v := 0) hx hb d_Mo_outside_14 (by decide) ?_
  have hP9 := hP.sub (ws' := []) [] rfl
  have hD9 := hD.sub (ws' := []) [] (by decide) rfl
  exact W.zret (v := 0) hx hb hr rfl (fun t ht9 hW => ⟨⟨0, (), rfl, rfl, by rw [ht9]; exact hP9, hD9⟩, hS.F ht9⟩) hS.2.2 d_Mo_outside_15

set_option maxHeartbeats 4000000 in
set_option maxRecDepth 100000 in
theorem c_Mo_outside_0_m2_lo (l : Launch) (dC : Nat → ClassId) (dI : Nat → Nat → Nat) (cI cL cZ : ClassId) (sz : Nat) (k0 : Int32) (h1 : k0 < 0) : Met l y_Mo_outside (Cond.code y_Mo_outside prog_11_method_4_code 3 (some .boolean) :: wsA) { frames := 0, cells := 0, slots := 0, locals := 0 } (va_Pc [.int k0, .int 0, .int (-2)] (fun U => U.heap.size = sz ∧ va_P (dC, dI) clA [] U.heap ∧ va_K (dC, dI) clA [(cI, .int), (cL, .long), (cZ, .boolean)] U ∧ va_D (fun _ => True) [] ∧ NwA U)) (va_Qi (fun r (_ : Unit) => r = 1) (fun _ t => va_P (dC, dI) clA [] t.heap ∧ va_D (va_A [] sz) []) (va_A [] sz)) 0 0 (va_A [] sz) := by
  refine Met.ofW (cc := prog_11_method_4_code) (maxL := 3) (ret := (some .boolean)) (by decide) rfl ?_
  intro p e s m args below meth c s₁ B hml hv
  obtain ⟨rfl, hsz, hP, hK, hD0, hN⟩ := hv
  have hx := B.exec
  have hb := B.bytes
  have hr := B.returns
  have ht : ∀ w ∈ wsA, w.before _ s = true := fun w h => atoms_spec (ws := (Cond.code y_Mo_outside prog_11_method_4_code 3 (some .boolean) :: wsA)) B.pre w (List.mem_cons_of_mem _ h)
  have hown : s.vm.findClass "NetUnfolderModel" = some m.cls := findClass_of_methodNamed B.named
  have hlocks := B.notSynchronized
  subst hsz
  have hD := hD0.self (sz := s.heap.size)
  generalize hAe : va_A [] s.heap.size = A at hD ⊢
  have hA : ∀ q : Nat, s.heap.size ≤ q → A q := fun q h => by rw [← hAe]; exact Or.inr h
  have hS : va_S A s.heap s.heap [] := va_S.rf
  have hl := lv_entry ([.int k0, .int 0, .int (-2)]) (n := 3) (Nat.le_of_ble_eq_true rfl)
  rw [lg_entry_eq]
  generalize (lg_sl ([.int k0, .int 0, .int (-2)]) ++ List.replicate (3 - (lg_sl ([.int k0, .int 0, .int (-2)])).length) Slot.unset).toArray = ls at hl ⊢
  replace hl : lv_has ls 3 [(0, .int k0), (1, .int 0), (2, .int (-2))] := hl
  refine lv_iload_n hx hb d_Mo_outside_0 rfl (lv_at hl 0 rfl) ?_
  refine lv_iload_n hx hb d_Mo_outside_1 rfl (lv_at hl 1 rfl) ?_
  refine lv_icmp_lt (tgt := 10) hx hb d_Mo_outside_2 (by decide) (fun _ => ?_) (fun h9 => (by exfalso; have eh1 := fa_lt (k := 0) (by decide) h1; have eh9 := fa_nlt (k := 0) (by decide) h9; omega))
  refine lv_iconst (v := 1) hx hb d_Mo_outside_10 (by decide) ?_
  refine lv_goto (tgt := 15) hx hb d_Mo_outside_11 (by decide) ?_
  have hP9 := hP.sub (ws' := []) [] rfl
  have hD9 := hD.sub (ws' := []) [] (by decide) rfl
  exact W.zret (v := 1) hx hb hr rfl (fun t ht9 hW => ⟨⟨1, (), rfl, rfl, by rw [ht9]; exact hP9, hD9⟩, hS.F ht9⟩) hS.2.2 d_Mo_outside_15

set_option maxHeartbeats 4000000 in
set_option maxRecDepth 100000 in
theorem c_Mo_outside_0_m2_hi (l : Launch) (dC : Nat → ClassId) (dI : Nat → Nat → Nat) (cI cL cZ : ClassId) (sz : Nat) (k0 : Int32) (h1 : ¬ k0 < 0) (h2 : (-2) < k0) : Met l y_Mo_outside (Cond.code y_Mo_outside prog_11_method_4_code 3 (some .boolean) :: wsA) { frames := 0, cells := 0, slots := 0, locals := 0 } (va_Pc [.int k0, .int 0, .int (-2)] (fun U => U.heap.size = sz ∧ va_P (dC, dI) clA [] U.heap ∧ va_K (dC, dI) clA [(cI, .int), (cL, .long), (cZ, .boolean)] U ∧ va_D (fun _ => True) [] ∧ NwA U)) (va_Qi (fun r (_ : Unit) => r = 1) (fun _ t => va_P (dC, dI) clA [] t.heap ∧ va_D (va_A [] sz) []) (va_A [] sz)) 0 0 (va_A [] sz) := by
  refine Met.ofW (cc := prog_11_method_4_code) (maxL := 3) (ret := (some .boolean)) (by decide) rfl ?_
  intro p e s m args below meth c s₁ B hml hv
  obtain ⟨rfl, hsz, hP, hK, hD0, hN⟩ := hv
  have hx := B.exec
  have hb := B.bytes
  have hr := B.returns
  have ht : ∀ w ∈ wsA, w.before _ s = true := fun w h => atoms_spec (ws := (Cond.code y_Mo_outside prog_11_method_4_code 3 (some .boolean) :: wsA)) B.pre w (List.mem_cons_of_mem _ h)
  have hown : s.vm.findClass "NetUnfolderModel" = some m.cls := findClass_of_methodNamed B.named
  have hlocks := B.notSynchronized
  subst hsz
  have hD := hD0.self (sz := s.heap.size)
  generalize hAe : va_A [] s.heap.size = A at hD ⊢
  have hA : ∀ q : Nat, s.heap.size ≤ q → A q := fun q h => by rw [← hAe]; exact Or.inr h
  have hS : va_S A s.heap s.heap [] := va_S.rf
  have hl := lv_entry ([.int k0, .int 0, .int (-2)]) (n := 3) (Nat.le_of_ble_eq_true rfl)
  rw [lg_entry_eq]
  generalize (lg_sl ([.int k0, .int 0, .int (-2)]) ++ List.replicate (3 - (lg_sl ([.int k0, .int 0, .int (-2)])).length) Slot.unset).toArray = ls at hl ⊢
  replace hl : lv_has ls 3 [(0, .int k0), (1, .int 0), (2, .int (-2))] := hl
  refine lv_iload_n hx hb d_Mo_outside_0 rfl (lv_at hl 0 rfl) ?_
  refine lv_iload_n hx hb d_Mo_outside_1 rfl (lv_at hl 1 rfl) ?_
  refine lv_icmp_lt (tgt := 10) hx hb d_Mo_outside_2 (by decide) (fun h9 => (by exfalso; have eh1 := fa_nlt (k := 0) (by decide) h1; have eh2 := fb_lt (k := -2) (by decide) h2; have eh9 := fa_lt (k := 0) (by decide) h9; omega)) (fun _ => ?_)
  refine lv_iload_n hx hb d_Mo_outside_5 rfl (lv_at hl 0 rfl) ?_
  refine lv_iload_n hx hb d_Mo_outside_6 rfl (lv_at hl 2 rfl) ?_
  refine lv_icmp_le (tgt := 14) hx hb d_Mo_outside_7 (by decide) (fun h9 => (by exfalso; have eh1 := fa_nlt (k := 0) (by decide) h1; have eh2 := fb_lt (k := -2) (by decide) h2; have eh9 := fa_le (k := -2) (by decide) h9; omega)) (fun _ => ?_)
  refine lv_iconst (v := 1) hx hb d_Mo_outside_10 (by decide) ?_
  refine lv_goto (tgt := 15) hx hb d_Mo_outside_11 (by decide) ?_
  have hP9 := hP.sub (ws' := []) [] rfl
  have hD9 := hD.sub (ws' := []) [] (by decide) rfl
  exact W.zret (v := 1) hx hb hr rfl (fun t ht9 hW => ⟨⟨1, (), rfl, rfl, by rw [ht9]; exact hP9, hD9⟩, hS.F ht9⟩) hS.2.2 d_Mo_outside_15

set_option maxHeartbeats 4000000 in
set_option maxRecDepth 100000 in
theorem c_Mo_outside_0_m1_lo (l : Launch) (dC : Nat → ClassId) (dI : Nat → Nat → Nat) (cI cL cZ : ClassId) (sz : Nat) (k0 : Int32) (h1 : k0 < 0) : Met l y_Mo_outside (Cond.code y_Mo_outside prog_11_method_4_code 3 (some .boolean) :: wsA) { frames := 0, cells := 0, slots := 0, locals := 0 } (va_Pc [.int k0, .int 0, .int (-1)] (fun U => U.heap.size = sz ∧ va_P (dC, dI) clA [] U.heap ∧ va_K (dC, dI) clA [(cI, .int), (cL, .long), (cZ, .boolean)] U ∧ va_D (fun _ => True) [] ∧ NwA U)) (va_Qi (fun r (_ : Unit) => r = 1) (fun _ t => va_P (dC, dI) clA [] t.heap ∧ va_D (va_A [] sz) []) (va_A [] sz)) 0 0 (va_A [] sz) := by
  refine Met.ofW (cc := prog_11_method_4_code) (maxL := 3) (ret := (some .boolean)) (by decide) rfl ?_
  intro p e s m args below meth c s₁ B hml hv
  obtain ⟨rfl, hsz, hP, hK, hD0, hN⟩ := hv
  have hx := B.exec
  have hb := B.bytes
  have hr := B.returns
  have ht : ∀ w ∈ wsA, w.before _ s = true := fun w h => atoms_spec (ws := (Cond.code y_Mo_outside prog_11_method_4_code 3 (some .boolean) :: wsA)) B.pre w (List.mem_cons_of_mem _ h)
  have hown : s.vm.findClass "NetUnfolderModel" = some m.cls := findClass_of_methodNamed B.named
  have hlocks := B.notSynchronized
  subst hsz
  have hD := hD0.self (sz := s.heap.size)
  generalize hAe : va_A [] s.heap.size = A at hD ⊢
  have hA : ∀ q : Nat, s.heap.size ≤ q → A q := fun q h => by rw [← hAe]; exact Or.inr h
  have hS : va_S A s.heap s.heap [] := va_S.rf
  have hl := lv_entry ([.int k0, .int 0, .int (-1)]) (n := 3) (Nat.le_of_ble_eq_true rfl)
  rw [lg_entry_eq]
  generalize (lg_sl ([.int k0, .int 0, .int (-1)]) ++ List.replicate (3 - (lg_sl ([.int k0, .int 0, .int (-1)])).length) Slot.unset).toArray = ls at hl ⊢
  replace hl : lv_has ls 3 [(0, .int k0), (1, .int 0), (2, .int (-1))] := hl
  refine lv_iload_n hx hb d_Mo_outside_0 rfl (lv_at hl 0 rfl) ?_
  refine lv_iload_n hx hb d_Mo_outside_1 rfl (lv_at hl 1 rfl) ?_
  refine lv_icmp_lt (tgt := 10) hx hb d_Mo_outside_2 (by decide) (fun _ => ?_) (fun h9 => (by exfalso; have eh1 := fa_lt (k := 0) (by decide) h1; have eh9 := fa_nlt (k := 0) (by decide) h9; omega))
  refine lv_iconst (v := 1) hx hb d_Mo_outside_10 (by decide) ?_
  refine lv_goto (tgt := 15) hx hb d_Mo_outside_11 (by decide) ?_
  have hP9 := hP.sub (ws' := []) [] rfl
  have hD9 := hD.sub (ws' := []) [] (by decide) rfl
  exact W.zret (v := 1) hx hb hr rfl (fun t ht9 hW => ⟨⟨1, (), rfl, rfl, by rw [ht9]; exact hP9, hD9⟩, hS.F ht9⟩) hS.2.2 d_Mo_outside_15

set_option maxHeartbeats 4000000 in
set_option maxRecDepth 100000 in
theorem c_Mo_outside_0_m1_hi (l : Launch) (dC : Nat → ClassId) (dI : Nat → Nat → Nat) (cI cL cZ : ClassId) (sz : Nat) (k0 : Int32) (h1 : ¬ k0 < 0) (h2 : (-1) < k0) : Met l y_Mo_outside (Cond.code y_Mo_outside prog_11_method_4_code 3 (some .boolean) :: wsA) { frames := 0, cells := 0, slots := 0, locals := 0 } (va_Pc [.int k0, .int 0, .int (-1)] (fun U => U.heap.size = sz ∧ va_P (dC, dI) clA [] U.heap ∧ va_K (dC, dI) clA [(cI, .int), (cL, .long), (cZ, .boolean)] U ∧ va_D (fun _ => True) [] ∧ NwA U)) (va_Qi (fun r (_ : Unit) => r = 1) (fun _ t => va_P (dC, dI) clA [] t.heap ∧ va_D (va_A [] sz) []) (va_A [] sz)) 0 0 (va_A [] sz) := by
  refine Met.ofW (cc := prog_11_method_4_code) (maxL := 3) (ret := (some .boolean)) (by decide) rfl ?_
  intro p e s m args below meth c s₁ B hml hv
  obtain ⟨rfl, hsz, hP, hK, hD0, hN⟩ := hv
  have hx := B.exec
  have hb := B.bytes
  have hr := B.returns
  have ht : ∀ w ∈ wsA, w.before _ s = true := fun w h => atoms_spec (ws := (Cond.code y_Mo_outside prog_11_method_4_code 3 (some .boolean) :: wsA)) B.pre w (List.mem_cons_of_mem _ h)
  have hown : s.vm.findClass "NetUnfolderModel" = some m.cls := findClass_of_methodNamed B.named
  have hlocks := B.notSynchronized
  subst hsz
  have hD := hD0.self (sz := s.heap.size)
  generalize hAe : va_A [] s.heap.size = A at hD ⊢
  have hA : ∀ q : Nat, s.heap.size ≤ q → A q := fun q h => by rw [← hAe]; exact Or.inr h
  have hS : va_S A s.heap s.heap [] := va_S.rf
  have hl := lv_entry ([.int k0, .int 0, .int (-1)]) (n := 3) (Nat.le_of_ble_eq_true rfl)
  rw [lg_entry_eq]
  generalize (lg_sl ([.int k0, .int 0, .int (-1)]) ++ List.replicate (3 - (lg_sl ([.int k0, .int 0, .int (-1)])).length) Slot.unset).toArray = ls at hl ⊢
  replace hl : lv_has ls 3 [(0, .int k0), (1, .int 0), (2, .int (-1))] := hl
  refine lv_iload_n hx hb d_Mo_outside_0 rfl (lv_at hl 0 rfl) ?_
  refine lv_iload_n hx hb d_Mo_outside_1 rfl (lv_at hl 1 rfl) ?_
  refine lv_icmp_lt (tgt := 10) hx hb d_Mo_outside_2 (by decide) (fun h9 => (by exfalso; have eh1 := fa_nlt (k := 0) (by decide) h1; have eh2 := fb_lt (k := -1) (by decide) h2; have eh9 := fa_lt (k := 0) (by decide) h9; omega)) (fun _ => ?_)
  refine lv_iload_n hx hb d_Mo_outside_5 rfl (lv_at hl 0 rfl) ?_
  refine lv_iload_n hx hb d_Mo_outside_6 rfl (lv_at hl 2 rfl) ?_
  refine lv_icmp_le (tgt := 14) hx hb d_Mo_outside_7 (by decide) (fun h9 => (by exfalso; have eh1 := fa_nlt (k := 0) (by decide) h1; have eh2 := fb_lt (k := -1) (by decide) h2; have eh9 := fa_le (k := -1) (by decide) h9; omega)) (fun _ => ?_)
  refine lv_iconst (v := 1) hx hb d_Mo_outside_10 (by decide) ?_
  refine lv_goto (tgt := 15) hx hb d_Mo_outside_11 (by decide) ?_
  have hP9 := hP.sub (ws' := []) [] rfl
  have hD9 := hD.sub (ws' := []) [] (by decide) rfl
  exact W.zret (v := 1) hx hb hr rfl (fun t ht9 hW => ⟨⟨1, (), rfl, rfl, by rw [ht9]; exact hP9, hD9⟩, hS.F ht9⟩) hS.2.2 d_Mo_outside_15
