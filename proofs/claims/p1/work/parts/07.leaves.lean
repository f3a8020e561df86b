set_option maxHeartbeats 4000000 in
set_option maxRecDepth 100000 in
theorem c_NU_isMarking_lo (l : Launch) (dC : Nat → ClassId) (dI : Nat → Nat → Nat) (cI cL cZ : ClassId) (sz : Nat) (k0 : Int32) (h1 : k0 < 0) : Met l y_NU_isMarking (Cond.code y_NU_isMarking prog_1_method_16_code 1 (some .boolean) :: wsA) { frames := 0, cells := 0, slots := 0, locals := 0 } (va_Pc [.int k0] (fun U => U.heap.size = sz ∧ va_P (dC, dI) clA [] U.heap ∧ va_K (dC, dI) clA [(cI, .int), (cL, .long), (cZ, .boolean)] U ∧ va_D (fun _ => True) [] ∧ NwA U)) (va_Qi (fun r (_ : Unit) => r = 0) (fun _ t => va_P (dC, dI) clA [] t.heap ∧ va_D (va_A [] sz) []) (va_A [] sz)) 0 0 (va_A [] sz) := by
  refine Met.ofW (cc := prog_1_method_16_code) (maxL := 1) (ret := (some .boolean)) (by decide) rfl ?_
  intro p e s m args below meth c s₁ B hml hv
  obtain ⟨rfl, hsz, hP, hK, hD0, hN⟩ := hv
  have hx := B.exec
  have hb := B.bytes
  have hr := B.returns
  have ht : ∀ w ∈ wsA, w.before _ s = true := fun w h => atoms_spec (ws := (Cond.code y_NU_isMarking prog_1_method_16_code 1 (some .boolean) :: wsA)) B.pre w (List.mem_cons_of_mem _ h)
  have hown : s.vm.findClass "NetUnfolder" = some m.cls := findClass_of_methodNamed B.named
  have hlocks := B.notSynchronized
  subst hsz
  have hD := hD0.self (sz := s.heap.size)
  generalize hAe : va_A [] s.heap.size = A at hD ⊢
  have hA : ∀ q : Nat, s.heap.size ≤ q → A q := fun q h => by rw [← hAe]; exact Or.inr h
  have hS : va_S A s.heap s.heap [] := va_S.rf
  have hl := lv_entry ([.int k0]) (n := 1) (Nat.le_of_ble_eq_true rfl)
  rw [lg_entry_eq]
  generalize (lg_sl ([.int k0]) ++ List.replicate (1 - (lg_sl ([.int k0])).length) Slot.unset).toArray = ls at hl ⊢
  replace hl : lv_has ls 1 [(0, .int k0)] := hl
  refine lv_iload_n hx hb d_NU_isMarking_0 rfl (lv_at hl 0 rfl) ?_
  refine lv_if_lt (tgt := 15) hx hb d_NU_isMarking_1 (by decide) (fun _ => ?_) (fun h9 => (by exfalso; have eh1 := fa_lt (k := 0) (by decide) h1; have eh9 := fa_nlt (k := 0) (by decide) h9; omega))
  refine lv_iconst (v := 0) hx hb d_NU_isMarking_15 (by decide) ?_
  have hP9 := hP.sub (ws' := []) [] rfl
  have hD9 := hD.sub (ws' := []) [] (by decide) rfl
  exact W.zret (v := 0) hx hb hr rfl (fun t ht9 hW => ⟨⟨0, (), rfl, rfl, by rw [ht9]; exact hP9, hD9⟩, hS.F ht9⟩) hS.2.2 d_NU_isMarking_16

set_option maxHeartbeats 4000000 in
set_option maxRecDepth 100000 in
theorem c_NU_isMarking_hi (l : Launch) (dC : Nat → ClassId) (dI : Nat → Nat → Nat) (cI cL cZ : ClassId) (sz : Nat) (k0 : Int32) (h2 : 255 < k0) : Met l y_NU_isMarking (Cond.code y_NU_isMarking prog_1_method_16_code 1 (some .boolean) :: wsA) { frames := 0, cells := 0, slots := 0, locals := 0 } (va_Pc [.int k0] (fun U => U.heap.size = sz ∧ va_P (dC, dI) clA [] U.heap ∧ va_K (dC, dI) clA [(cI, .int), (cL, .long), (cZ, .boolean)] U ∧ va_D (fun _ => True) [] ∧ NwA U)) (va_Qi (fun r (_ : Unit) => r = 0) (fun _ t => va_P (dC, dI) clA [] t.heap ∧ va_D (va_A [] sz) []) (va_A [] sz)) 0 0 (va_A [] sz) := by
  refine Met.ofW (cc := prog_1_method_16_code) (maxL := 1) (ret := (some .boolean)) (by decide) rfl ?_
  intro p e s m args below meth c s₁ B hml hv
  obtain ⟨rfl, hsz, hP, hK, hD0, hN⟩ := hv
  have hx := B.exec
  have hb := B.bytes
  have hr := B.returns
  have ht : ∀ w ∈ wsA, w.before _ s = true := fun w h => atoms_spec (ws := (Cond.code y_NU_isMarking prog_1_method_16_code 1 (some .boolean) :: wsA)) B.pre w (List.mem_cons_of_mem _ h)
  have hown : s.vm.findClass "NetUnfolder" = some m.cls := findClass_of_methodNamed B.named
  have hlocks := B.notSynchronized
  subst hsz
  have hD := hD0.self (sz := s.heap.size)
  generalize hAe : va_A [] s.heap.size = A at hD ⊢
  have hA : ∀ q : Nat, s.heap.size ≤ q → A q := fun q h => by rw [← hAe]; exact Or.inr h
  have hS : va_S A s.heap s.heap [] := va_S.rf
  have hl := lv_entry ([.int k0]) (n := 1) (Nat.le_of_ble_eq_true rfl)
  rw [lg_entry_eq]
  generalize (lg_sl ([.int k0]) ++ List.replicate (1 - (lg_sl ([.int k0])).length) Slot.unset).toArray = ls at hl ⊢
  replace hl : lv_has ls 1 [(0, .int k0)] := hl
  refine lv_iload_n hx hb d_NU_isMarking_0 rfl (lv_at hl 0 rfl) ?_
  refine lv_if_lt (tgt := 15) hx hb d_NU_isMarking_1 (by decide) (fun h9 => (by exfalso; have eh2 := fb_lt (k := 255) (by decide) h2; have eh9 := fa_lt (k := 0) (by decide) h9; omega)) (fun _ => ?_)
  refine lv_iload_n hx hb d_NU_isMarking_4 rfl (lv_at hl 0 rfl) ?_
  refine lv_sipush (v := 255) hx hb d_NU_isMarking_5 (by decide) ?_
  refine lv_icmp_gt (tgt := 15) hx hb d_NU_isMarking_8 (by decide) (fun _ => ?_) (fun h9 => (by exfalso; have eh2 := fb_lt (k := 255) (by decide) h2; have eh9 := fb_nlt (k := 255) (by decide) h9; omega))
  refine lv_iconst (v := 0) hx hb d_NU_isMarking_15 (by decide) ?_
  have hP9 := hP.sub (ws' := []) [] rfl
  have hD9 := hD.sub (ws' := []) [] (by decide) rfl
  exact W.zret (v := 0) hx hb hr rfl (fun t ht9 hW => ⟨⟨0, (), rfl, rfl, by rw [ht9]; exact hP9, hD9⟩, hS.F ht9⟩) hS.2.2 d_NU_isMarking_16

set_option maxHeartbeats 4000000 in
set_option maxRecDepth 100000 in
theorem c_NU_isMarking_ok (l : Launch) (dC : Nat → ClassId) (dI : Nat → Nat → Nat) (cI cL cZ : ClassId) (sz : Nat) (k0 : Int32) (h1 : ¬ k0 < 0) (h2 : ¬ 255 < k0) : Met l y_NU_isMarking (Cond.code y_NU_isMarking prog_1_method_16_code 1 (some .boolean) :: wsA) { frames := 0, cells := 0, slots := 0, locals := 0 } (va_Pc [.int k0] (fun U => U.heap.size = sz ∧ va_P (dC, dI) clA [] U.heap ∧ va_K (dC, dI) clA [(cI, .int), (cL, .long), (cZ, .boolean)] U ∧ va_D (fun _ => True) [] ∧ NwA U)) (va_Qi (fun r (_ : Unit) => r = 1) (fun _ t => va_P (dC, dI) clA [] t.heap ∧ va_D (va_A [] sz) []) (va_A [] sz)) 0 0 (va_A [] sz) := by
  refine Met.ofW (cc := prog_1_method_16_code) (maxL := 1) (ret := (some .boolean)) (by decide) rfl ?_
  intro p e s m args below meth c s₁ B hml hv
  obtain ⟨rfl, hsz, hP, hK, hD0, hN⟩ := hv
  have hx := B.exec
  have hb := B.bytes
  have hr := B.returns
  have ht : ∀ w ∈ wsA, w.before _ s = true := fun w h => atoms_spec (ws := (Cond.code y_NU_isMarking prog_1_method_16_code 1 (some .boolean) :: wsA)) B.pre w (List.mem_cons_of_mem _ h)
  have hown : s.vm.findClass "NetUnfolder" = some m.cls := findClass_of_methodNamed B.named
  have hlocks := B.notSynchronized
  subst hsz
  have hD := hD0.self (sz := s.heap.size)
  generalize hAe : va_A [] s.heap.size = A at hD ⊢
  have hA : ∀ q : Nat, s.heap.size ≤ q → A q := fun q h => by rw [← hAe]; exact Or.inr h
  have hS : va_S A s.heap s.heap [] := va_S.rf
  have hl := lv_entry ([.int k0]) (n := 1) (Nat.le_of_ble_eq_true rfl)
  rw [lg_entry_eq]
  generalize (lg_sl ([.int k0]) ++ List.replicate (1 - (lg_sl ([.int k0])).length) Slot.unset).toArray = ls at hl ⊢
  replace hl : lv_has ls 1 [(0, .int k0)] := hl
  refine lv_iload_n hx hb d_NU_isMarking_0 rfl (lv_at hl 0 rfl) ?_
  refine lv_if_lt (tgt := 15) hx hb d_NU_isMarking_1 (by decide) (fun h9 => (by exfalso; have eh1 := fa_nlt (k := 0) (by decide) h1; have eh2 := fb_nlt (k := 255) (by decide) h2; have eh9 := fa_lt (k := 0) (by decide) h9; omega)) (fun _ => ?_)
  refine lv_iload_n hx hb d_NU_isMarking_4 rfl (lv_at hl 0 rfl) ?_
  refine lv_sipush (v := 255) hx hb d_NU_isMarking_5 (by decide) ?_
  refine lv_icmp_gt (tgt := 15) hx hb d_NU_isMarking_8 (by decide) (fun h9 => (by exfalso; have eh1 := fa_nlt (k := 0) (by decide) h1; have eh2 := fb_nlt (k := 255) (by decide) h2; have eh9 := fb_lt (k := 255) (by decide) h9; omega)) (fun _ => ?_)
  refine lv_iconst (v := 1) hx hb d_NU_isMarking_11 (by decide) ?_
  refine lv_goto (tgt := 16) hx hb d_NU_isMarking_12 (by decide) ?_
  have hP9 := hP.sub (ws' := []) [] rfl
  have hD9 := hD.sub (ws' := []) [] (by decide) rfl
  exact W.zret (v := 1) hx hb hr rfl (fun t ht9 hW => ⟨⟨1, (), rfl, rfl, by rw [ht9]; exact hP9, hD9⟩, hS.F ht9⟩) hS.2.2 d_NU_isMarking_16

set_option maxHeartbeats 4000000 in
set_option maxRecDepth 100000 in
theorem c_NU_has_0_0 (l : Launch) (dC : Nat → ClassId) (dI : Nat → Nat → Nat) (cI cL cZ : ClassId) (sz : Nat) : Met l y_NU_has (Cond.code y_NU_has prog_1_method_17_code 3 (some .boolean) :: wsA) { frames := 0, cells := 0, slots := 0, locals := 0 } (va_Pc [.long 0, .int 0] (fun U => U.heap.size = sz ∧ va_P (dC, dI) clA [] U.heap ∧ va_K (dC, dI) clA [(cI, .int), (cL, .long), (cZ, .boolean)] U ∧ va_D (fun _ => True) [] ∧ NwA U)) (va_Qi (fun r (_ : Unit) => r = 0) (fun _ t => va_P (dC, dI) clA [] t.heap ∧ va_D (va_A [] sz) []) (va_A [] sz)) 0 0 (va_A [] sz) := by
  refine Met.ofW (cc := prog_1_method_17_code) (maxL := 3) (ret := (some .boolean)) (by decide) rfl ?_
  intro p e s m args below meth c s₁ B hml hv
  obtain ⟨rfl, hsz, hP, hK, hD0, hN⟩ := hv
  have hx := B.exec
  have hb := B.bytes
  have hr := B.returns
  have ht : ∀ w ∈ wsA, w.before _ s = true := fun w h => atoms_spec (ws := (Cond.code y_NU_has prog_1_method_17_code 3 (some .boolean) :: wsA)) B.pre w (List.mem_cons_of_mem _ h)
  have hown : s.vm.findClass "NetUnfolder" = some m.cls := findClass_of_methodNamed B.named
  have hlocks := B.notSynchronized
  subst hsz
  have hD := hD0.self (sz := s.heap.size)
  generalize hAe : va_A [] s.heap.size = A at hD ⊢
  have hA : ∀ q : Nat, s.heap.size ≤ q → A q := fun q h => by rw [← hAe]; exact Or.inr h
  have hS : va_S A s.heap s.heap [] := va_S.rf
  have hl := lv_entry ([.long 0, .int 0]) (n := 3) (Nat.le_of_ble_eq_true rfl)
  rw [lg_entry_eq]
  generalize (lg_sl ([.long 0, .int 0]) ++ List.replicate (3 - (lg_sl ([.long 0, .int 0])).length) Slot.unset).toArray = ls at hl ⊢
  replace hl : lv_has ls 3 [(0, .long 0), (2, .int 0)] := hl
  refine lv_lload_n hx hb d_NU_has_0 rfl (lv_at hl 0 rfl) ?_
  refine lv_iload_n hx hb d_NU_has_1 rfl (lv_at hl 1 rfl) ?_
  refine lv_lushr (v := 0) hx hb d_NU_has_2 (by decide) ?_
  refine lv_lconst (v := 1) hx hb d_NU_has_3 (by decide) ?_
  refine lv_land hx hb d_NU_has_4 ?_
  refine ci_l (y := 0) (by decide) ?_
  refine lv_lconst (v := 0) hx hb d_NU_has_5 (by decide) ?_
  refine W.lcmp hx hb d_NU_has_6 ?_
  refine ci_i (y := 0) (by decide) ?_
  refine lv_if_eq (tgt := 14) hx hb d_NU_has_7 (by decide) (fun _ => ?_) (fun h => (h (by decide)).elim)
  refine lv_iconst (v := 0) hx hb d_NU_has_14 (by decide) ?_
  have hP9 := hP.sub (ws' := []) [] rfl
  have hD9 := hD.sub (ws' := []) [] (by decide) rfl
  exact W.zret (v := 0) hx hb hr rfl (fun t ht9 hW => ⟨⟨0, (), rfl, rfl, by rw [ht9]; exact hP9, hD9⟩, hS.F ht9⟩) hS.2.2 d_NU_has_15

set_option maxHeartbeats 4000000 in
set_option maxRecDepth 100000 in
theorem c_NU_has_0_1 (l : Launch) (dC : Nat → ClassId) (dI : Nat → Nat → Nat) (cI cL cZ : ClassId) (sz : Nat) : Met l y_NU_has (Cond.code y_NU_has prog_1_method_17_code 3 (some .boolean) :: wsA) { frames := 0, cells := 0, slots := 0, locals := 0 } (va_Pc [.long 0, .int 1] (fun U => U.heap.size = sz ∧ va_P (dC, dI) clA [] U.heap ∧ va_K (dC, dI) clA [(cI, .int), (cL, .long), (cZ, .boolean)] U ∧ va_D (fun _ => True) [] ∧ NwA U)) (va_Qi (fun r (_ : Unit) => r = 0) (fun _ t => va_P (dC, dI) clA [] t.heap ∧ va_D (va_A [] sz) []) (va_A [] sz)) 0 0 (va_A [] sz) := by
  refine Met.ofW (cc := prog_1_method_17_code) (maxL := 3) (ret := (some .boolean)) (by decide) rfl ?_
  intro p e s m args below meth c s₁ B hml hv
  obtain ⟨rfl, hsz, hP, hK, hD0, hN⟩ := hv
  have hx := B.exec
  have hb := B.bytes
  have hr := B.returns
  have ht : ∀ w ∈ wsA, w.before _ s = true := fun w h => atoms_spec (ws := (Cond.code y_NU_has prog_1_method_17_code 3 (some .boolean) :: wsA)) B.pre w (List.mem_cons_of_mem _ h)
  have hown : s.vm.findClass "NetUnfolder" = some m.cls := findClass_of_methodNamed B.named
  have hlocks := B.notSynchronized
  subst hsz
  have hD := hD0.self (sz := s.heap.size)
  generalize hAe : va_A [] s.heap.size = A at hD ⊢
  have hA : ∀ q : Nat, s.heap.size ≤ q → A q := fun q h => by rw [← hAe]; exact Or.inr h
  have hS : va_S A s.heap s.heap [] := va_S.rf
  have hl := lv_entry ([.long 0, .int 1]) (n := 3) (Nat.le_of_ble_eq_true rfl)
  rw [lg_entry_eq]
  generalize (lg_sl ([.long 0, .int 1]) ++ List.replicate (3 - (lg_sl ([.long 0, .int 1])).length) Slot.unset).toArray = ls at hl ⊢
  replace hl : lv_has ls 3 [(0, .long 0), (2, .int 1)] := hl
  refine lv_lload_n hx hb d_NU_has_0 rfl (lv_at hl 0 rfl) ?_
  refine lv_iload_n hx hb d_NU_has_1 rfl (lv_at hl 1 rfl) ?_
  refine lv_lushr (v := 0) hx hb d_NU_has_2 (by decide) ?_
  refine lv_lconst (v := 1) hx hb d_NU_has_3 (by decide) ?_
  refine lv_land hx hb d_NU_has_4 ?_
  refine ci_l (y := 0) (by decide) ?_
  refine lv_lconst (v := 0) hx hb d_NU_has_5 (by decide) ?_
  refine W.lcmp hx hb d_NU_has_6 ?_
  refine ci_i (y := 0) (by decide) ?_
  refine lv_if_eq (tgt := 14) hx hb d_NU_has_7 (by decide) (fun _ => ?_) (fun h => (h (by decide)).elim)
  refine lv_iconst (v := 0) hx hb d_NU_has_14 (by decide) ?_
  have hP9 := hP.sub (ws' := []) [] rfl
  have hD9 := hD.sub (ws' := []) [] (by decide) rfl
  exact W.zret (v := 0) hx hb hr rfl (fun t ht9 hW => ⟨⟨0, (), rfl, rfl, by rw [ht9]; exact hP9, hD9⟩, hS.F ht9⟩) hS.2.2 d_NU_has_15

set_option maxHeartbeats 4000000 in
set_option maxRecDepth 100000 in
theorem c_NU_has_0_2 (l : Launch) (dC : Nat → ClassId) (dI : Nat → Nat → Nat) (cI cL cZ : ClassId) (sz : Nat) : Met l y_NU_has (Cond.code y_NU_has prog_1_method_17_code 3 (some .boolean) :: wsA) { frames := 0, cells := 0, slots := 0, locals := 0 } (va_Pc [.long 0, .int 2] (fun U => U.heap.size = sz ∧ va_P (dC, dI) clA [] U.heap ∧ va_K (dC, dI) clA [(cI, .int), (cL, .long), (cZ, .boolean)] U ∧ va_D (fun _ => True) [] ∧ NwA U)) (va_Qi (fun r (_ : Unit) => r = 0) (fun _ t => va_P (dC, dI) clA [] t.heap ∧ va_D (va_A [] sz) []) (va_A [] sz)) 0 0 (va_A [] sz) := by
  refine Met.ofW (cc := prog_1_method_17_code) (maxL := 3) (ret := (some .boolean)) (by decide) rfl ?_
  intro p e s m args below meth c s₁ B hml hv
  obtain ⟨rfl, hsz, hP, hK, hD0, hN⟩ := hv
  have hx := B.exec
  have hb := B.bytes
  have hr := B.returns
  have ht : ∀ w ∈ wsA, w.before _ s = true := fun w h => atoms_spec (ws := (Cond.code y_NU_has prog_1_method_17_code 3 (some .boolean) :: wsA)) B.pre w (List.mem_cons_of_mem _ h)
  have hown : s.vm.findClass "NetUnfolder" = some m.cls := findClass_of_methodNamed B.named
  have hlocks := B.notSynchronized
  subst hsz
  have hD := hD0.self (sz := s.heap.size)
  generalize hAe : va_A [] s.heap.size = A at hD ⊢
  have hA : ∀ q : Nat, s.heap.size ≤ q → A q := fun q h => by rw [← hAe]; exact Or.inr h
  have hS : va_S A s.heap s.heap [] := va_S.rf
  have hl := lv_entry ([.long 0, .int 2]) (n := 3) (Nat.le_of_ble_eq_true rfl)
  rw [lg_entry_eq]
  generalize (lg_sl ([.long 0, .int 2]) ++ List.replicate (3 - (lg_sl ([.long 0, .int 2])).length) Slot.unset).toArray = ls at hl ⊢
  replace hl : lv_has ls 3 [(0, .long 0), (2, .int 2)] := hl
  refine lv_lload_n hx hb d_NU_has_0 rfl (lv_at hl 0 rfl) ?_
  refine lv_iload_n hx hb d_NU_has_1 rfl (lv_at hl 1 rfl) ?_
  refine lv_lushr (v := 0) hx hb d_NU_has_2 (by decide) ?_
  refine lv_lconst (v := 1) hx hb d_NU_has_3 (by decide) ?_
  refine lv_land hx hb d_NU_has_4 ?_
  refine ci_l (y := 0) (by decide) ?_
  refine lv_lconst (v := 0) hx hb d_NU_has_5 (by decide) ?_
  refine W.lcmp hx hb d_NU_has_6 ?_
  refine ci_i (y := 0) (by decide) ?_
  refine lv_if_eq (tgt := 14) hx hb d_NU_has_7 (by decide) (fun _ => ?_) (fun h => (h (by decide)).elim)
  refine lv_iconst (v := 0) hx hb d_NU_has_14 (by decide) ?_
  have hP9 := hP.sub (ws' := []) [] rfl
  have hD9 := hD.sub (ws' := []) [] (by decide) rfl
  exact W.zret (v := 0) hx hb hr rfl (fun t ht9 hW => ⟨⟨0, (), rfl, rfl, by rw [ht9]; exact hP9, hD9⟩, hS.F ht9⟩) hS.2.2 d_NU_has_15

set_option maxHeartbeats 4000000 in
set_option maxRecDepth 100000 in
theorem c_NU_has_0_3 (l : Launch) (dC : Nat → ClassId) (dI : Nat → Nat → Nat) (cI cL cZ : ClassId) (sz : Nat) : Met l y_NU_has (Cond.code y_NU_has prog_1_method_17_code 3 (some .boolean) :: wsA) { frames := 0, cells := 0, slots := 0, locals := 0 } (va_Pc [.long 0, .int 3] (fun U => U.heap.size = sz ∧ va_P (dC, dI) clA [] U.heap ∧ va_K (dC, dI) clA [(cI, .int), (cL, .long), (cZ, .boolean)] U ∧ va_D (fun _ => True) [] ∧ NwA U)) (va_Qi (fun r (_ : Unit) => r = 0) (fun _ t => va_P (dC, dI) clA [] t.heap ∧ va_D (va_A [] sz) []) (va_A [] sz)) 0 0 (va_A [] sz) := by
  refine Met.ofW (cc := prog_1_method_17_code) (maxL := 3) (ret := (some .boolean)) (by decide) rfl ?_
  intro p e s m args below meth c s₁ B hml hv
  obtain ⟨rfl, hsz, hP, hK, hD0, hN⟩ := hv
  have hx := B.exec
  have hb := B.bytes
  have hr := B.returns
  have ht : ∀ w ∈ wsA, w.before _ s = true := fun w h => atoms_spec (ws := (Cond.code y_NU_has prog_1_method_17_code 3 (some .boolean) :: wsA)) B.pre w (List.mem_cons_of_mem _ h)
  have hown : s.vm.findClass "NetUnfolder" = some m.cls := findClass_of_methodNamed B.named
  have hlocks := B.notSynchronized
  subst hsz
  have hD := hD0.self (sz := s.heap.size)
  generalize hAe : va_A [] s.heap.size = A at hD ⊢
  have hA : ∀ q : Nat, s.heap.size ≤ q → A q := fun q h => by rw [← hAe]; exact Or.inr h
  have hS : va_S A s.heap s.heap [] := va_S.rf
  have hl := lv_entry ([.long 0, .int 3]) (n := 3) (Nat.le_of_ble_eq_true rfl)
  rw [lg_entry_eq]
  generalize (lg_sl ([.long 0, .int 3]) ++ List.replicate (3 - (lg_sl ([.long 0, .int 3])).length) Slot.unset).toArray = ls at hl ⊢
  replace hl : lv_has ls 3 [(0, .long 0), (2, .int 3)] := hl
  refine lv_lload_n hx hb d_NU_has_0 rfl (lv_at hl 0 rfl) ?_
  refine lv_iload_n hx hb d_NU_has_1 rfl (lv_at hl 1 rfl) ?_
  refine lv_lushr (v := 0) hx hb d_NU_has_2 (by decide) ?_
  refine lv_lconst (v := 1) hx hb d_NU_has_3 (by decide) ?_
  refine lv_land hx hb d_NU_has_4 ?_
  refine ci_l (y := 0) (by decide) ?_
  refine lv_lconst (v := 0) hx hb d_NU_has_5 (by decide) ?_
  refine W.lcmp hx hb d_NU_has_6 ?_
  refine ci_i (y := 0) (by decide) ?_
  refine lv_if_eq (tgt := 14) hx hb d_NU_has_7 (by decide) (fun _ => ?_) (fun h => (h (by decide)).elim)
  refine lv_iconst (v := 0) hx hb d_NU_has_14 (by decide) ?_
  have hP9 := hP.sub (ws' := []) [] rfl
  have hD9 := hD.sub (ws' := []) [] (by decide) rfl
  exact W.zret (v := 0) hx hb hr rfl (fun t ht9 hW => ⟨⟨0, (), rfl, rfl, by rw [ht9]; exact hP9, hD9⟩, hS.F ht9⟩) hS.2.2 d_NU_has_15

set_option maxHeartbeats 4000000 in
set_option maxRecDepth 100000 in
theorem c_NU_has_0_4 (l : Launch) (dC : Nat → ClassId) (dI : Nat → Nat → Nat) (cI cL cZ : ClassId) (sz : Nat) : Met l y_NU_has (Cond.code y_NU_has prog_1_method_17_code 3 (some .boolean) :: wsA) { frames := 0, cells := 0, slots := 0, locals := 0 } (va_Pc [.long 0, .int 4] (fun U => U.heap.size = sz ∧ va_P (dC, dI) clA [] U.heap ∧ va_K (dC, dI) clA [(cI, .int), (cL, .long), (cZ, .boolean)] U ∧ va_D (fun _ => True) [] ∧ NwA U)) (va_Qi (fun r (_ : Unit) => r = 0) (fun _ t => va_P (dC, dI) clA [] t.heap ∧ va_D (va_A [] sz) []) (va_A [] sz)) 0 0 (va_A [] sz) := by
  refine Met.ofW (cc := prog_1_method_17_code) (maxL := 3) (ret := (some .boolean)) (by decide) rfl ?_
  intro p e s m args below meth c s₁ B hml hv
  obtain ⟨rfl, hsz, hP, hK, hD0, hN⟩ := hv
  have hx := B.exec
  have hb := B.bytes
  have hr := B.returns
  have ht : ∀ w ∈ wsA, w.before _ s = true := fun w h => atoms_spec (ws := (Cond.code y_NU_has prog_1_method_17_code 3 (some .boolean) :: wsA)) B.pre w (List.mem_cons_of_mem _ h)
  have hown : s.vm.findClass "NetUnfolder" = some m.cls := findClass_of_methodNamed B.named
  have hlocks := B.notSynchronized
  subst hsz
  have hD := hD0.self (sz := s.heap.size)
  generalize hAe : va_A [] s.heap.size = A at hD ⊢
  have hA : ∀ q : Nat, s.heap.size ≤ q → A q := fun q h => by rw [← hAe]; exact Or.inr h
  have hS : va_S A s.heap s.heap [] := va_S.rf
  have hl := lv_entry ([.long 0, .int 4]) (n := 3) (Nat.le_of_ble_eq_true rfl)
  rw [lg_entry_eq]
  generalize (lg_sl ([.long 0, .int 4]) ++ List.replicate (3 - (lg_sl ([.long 0, .int 4])).length) Slot.unset).toArray = ls at hl ⊢
  replace hl : lv_has ls 3 [(0, .long 0), (2, .int 4)] := hl
  refine lv_lload_n hx hb d_NU_has_0 rfl (lv_at hl 0 rfl) ?_
  refine lv_iload_n hx hb d_NU_has_1 rfl (lv_at hl 1 rfl) ?_
  refine lv_lushr (v := 0) hx hb d_NU_has_2 (by decide) ?_
  refine lv_lconst (v := 1) hx hb d_NU_has_3 (by decide) ?_
  refine lv_land hx hb d_NU_has_4 ?_
  refine ci_l (y := 0) (by decide) ?_
  refine lv_lconst (v := 0) hx hb d_NU_has_5 (by decide) ?_
  refine W.lcmp hx hb d_NU_has_6 ?_
  refine ci_i (y := 0) (by decide) ?_
  refine lv_if_eq (tgt := 14) hx hb d_NU_has_7 (by decide) (fun _ => ?_) (fun h => (h (by decide)).elim)
  refine lv_iconst (v := 0) hx hb d_NU_has_14 (by decide) ?_
  have hP9 := hP.sub (ws' := []) [] rfl
  have hD9 := hD.sub (ws' := []) [] (by decide) rfl
  exact W.zret (v := 0) hx hb hr rfl (fun t ht9 hW => ⟨⟨0, (), rfl, rfl, by rw [ht9]; exact hP9, hD9⟩, hS.F ht9⟩) hS.2.2 d_NU_has_15

set_option maxHeartbeats 4000000 in
set_option maxRecDepth 100000 in
theorem c_NU_has_0_5 (l : Launch) (dC : Nat → ClassId) (dI : Nat → Nat → Nat) (cI cL cZ : ClassId) (sz : Nat) : Met l y_NU_has (Cond.code y_NU_has prog_1_method_17_code 3 (some .boolean) :: wsA) { frames := 0, cells := 0, slots := 0, locals := 0 } (va_Pc [.long 0, .int 5] (fun U => U.heap.size = sz ∧ va_P (dC, dI) clA [] U.heap ∧ va_K (dC, dI) clA [(cI, .int), (cL, .long), (cZ, .boolean)] U ∧ va_D (fun _ => True) [] ∧ NwA U)) (va_Qi (fun r (_ : Unit) => r = 0) (fun _ t => va_P (dC, dI) clA [] t.heap ∧ va_D (va_A [] sz) []) (va_A [] sz)) 0 0 (va_A [] sz) := by
  refine Met.ofW (cc := prog_1_method_17_code) (maxL := 3) (ret := (some .boolean)) (by decide) rfl ?_
  intro p e s m args below meth c s₁ B hml hv
  obtain ⟨rfl, hsz, hP, hK, hD0, hN⟩ := hv
  have hx := B.exec
  have hb := B.bytes
  have hr := B.returns
  have ht : ∀ w ∈ wsA, w.before _ s = true := fun w h => atoms_spec (ws := (Cond.code y_NU_has prog_1_method_17_code 3 (some .boolean) :: wsA)) B.pre w (List.mem_cons_of_mem _ h)
  have hown : s.vm.findClass "NetUnfolder" = some m.cls := findClass_of_methodNamed B.named
  have hlocks := B.notSynchronized
  subst hsz
  have hD := hD0.self (sz := s.heap.size)
  generalize hAe : va_A [] s.heap.size = A at hD ⊢
  have hA : ∀ q : Nat, s.heap.size ≤ q → A q := fun q h => by rw [← hAe]; exact Or.inr h
  have hS : va_S A s.heap s.heap [] := va_S.rf
  have hl := lv_entry ([.long 0, .int 5]) (n := 3) (Nat.le_of_ble_eq_true rfl)
  rw [lg_entry_eq]
  generalize (lg_sl ([.long 0, .int 5]) ++ List.replicate (3 - (lg_sl ([.long 0, .int 5])).length) Slot.unset).toArray = ls at hl ⊢
  replace hl : lv_has ls 3 [(0, .long 0), (2, .int 5)] := hl
  refine lv_lload_n hx hb d_NU_has_0 rfl (lv_at hl 0 rfl) ?_
  refine lv_iload_n hx hb d_NU_has_1 rfl (lv_at hl 1 rfl) ?_
  refine lv_lushr (v := 0) hx hb d_NU_has_2 (by decide) ?_
  refine lv_lconst (v := 1) hx hb d_NU_has_3 (by decide) ?_
  refine lv_land hx hb d_NU_has_4 ?_
  refine ci_l (y := 0) (by decide) ?_
  refine lv_lconst (v := 0) hx hb d_NU_has_5 (by decide) ?_
  refine W.lcmp hx hb d_NU_has_6 ?_
  refine ci_i (y := 0) (by decide) ?_
  refine lv_if_eq (tgt := 14) hx hb d_NU_has_7 (by decide) (fun _ => ?_) (fun h => (h (by decide)).elim)
  refine lv_iconst (v := 0) hx hb d_NU_has_14 (by decide) ?_
  have hP9 := hP.sub (ws' := []) [] rfl
  have hD9 := hD.sub (ws' := []) [] (by decide) rfl
  exact W.zret (v := 0) hx hb hr rfl (fun t ht9 hW => ⟨⟨0, (), rfl, rfl, by rw [ht9]; exact hP9, hD9⟩, hS.F ht9⟩) hS.2.2 d_NU_has_15

set_option maxHeartbeats 4000000 in
set_option maxRecDepth 100000 in
theorem c_NU_has_0_6 (l : Launch) (dC : Nat → ClassId) (dI : Nat → Nat → Nat) (cI cL cZ : ClassId) (sz : Nat) : Met l y_NU_has (Cond.code y_NU_has prog_1_method_17_code 3 (some .boolean) :: wsA) { frames := 0, cells := 0, slots := 0, locals := 0 } (va_Pc [.long 0, .int 6] (fun U => U.heap.size = sz ∧ va_P (dC, dI) clA [] U.heap ∧ va_K (dC, dI) clA [(cI, .int), (cL, .long), (cZ, .boolean)] U ∧ va_D (fun _ => True) [] ∧ NwA U)) (va_Qi (fun r (_ : Unit) => r = 0) (fun _ t => va_P (dC, dI) clA [] t.heap ∧ va_D (va_A [] sz) []) (va_A [] sz)) 0 0 (va_A [] sz) := by
  refine Met.ofW (cc := prog_1_method_17_code) (maxL := 3) (ret := (some .boolean)) (by decide) rfl ?_
  intro p e s m args below meth c s₁ B hml hv
  obtain ⟨rfl, hsz, hP, hK, hD0, hN⟩ := hv
  have hx := B.exec
  have hb := B.bytes
  have hr := B.returns
  have ht : ∀ w ∈ wsA, w.before _ s = true := fun w h => atoms_spec (ws := (Cond.code y_NU_has prog_1_method_17_code 3 (some .boolean) :: wsA)) B.pre w (List.mem_cons_of_mem _ h)
  have hown : s.vm.findClass "NetUnfolder" = some m.cls := findClass_of_methodNamed B.named
  have hlocks := B.notSynchronized
  subst hsz
  have hD := hD0.self (sz := s.heap.size)
  generalize hAe : va_A [] s.heap.size = A at hD ⊢
  have hA : ∀ q : Nat, s.heap.size ≤ q → A q := fun q h => by rw [← hAe]; exact Or.inr h
  have hS : va_S A s.heap s.heap [] := va_S.rf
  have hl := lv_entry ([.long 0, .int 6]) (n := 3) (Nat.le_of_ble_eq_true rfl)
  rw [lg_entry_eq]
  generalize (lg_sl ([.long 0, .int 6]) ++ List.replicate (3 - (lg_sl ([.long 0, .int 6])).length) Slot.unset).toArray = ls at hl ⊢
  replace hl : lv_has ls 3 [(0, .long 0), (2, .int 6)] := hl
  refine lv_lload_n hx hb d_NU_has_0 rfl (lv_at hl 0 rfl) ?_
  refine lv_iload_n hx hb d_NU_has_1 rfl (lv_at hl 1 rfl) ?_
  refine lv_lushr (v := 0) hx hb d_NU_has_2 (by decide) ?_
  refine lv_lconst (v := 1) hx hb d_NU_has_3 (by decide) ?_
  refine lv_land hx hb d_NU_has_4 ?_
  refine ci_l (y := 0) (by decide) ?_
  refine lv_lconst (v := 0) hx hb d_NU_has_5 (by decide) ?_
  refine W.lcmp hx hb d_NU_has_6 ?_
  refine ci_i (y := 0) (by decide) ?_
  refine lv_if_eq (tgt := 14) hx hb d_NU_has_7 (by decide) (fun _ => ?_) (fun h => (h (by decide)).elim)
  refine lv_iconst (v := 0) hx hb d_NU_has_14 (by decide) ?_
  have hP9 := hP.sub (ws' := []) [] rfl
  have hD9 := hD.sub (ws' := []) [] (by decide) rfl
  exact W.zret (v := 0) hx hb hr rfl (fun t ht9 hW => ⟨⟨0, (), rfl, rfl, by rw [ht9]; exact hP9, hD9⟩, hS.F ht9⟩) hS.2.2 d_NU_has_15

set_option maxHeartbeats 4000000 in
set_option maxRecDepth 100000 in
theorem c_NU_has_0_7 (l : Launch) (dC : Nat → ClassId) (dI : Nat → Nat → Nat) (cI cL cZ : ClassId) (sz : Nat) : Met l y_NU_has (Cond.code y_NU_has prog_1_method_17_code 3 (some .boolean) :: wsA) { frames := 0, cells := 0, slots := 0, locals := 0 } (va_Pc [.long 0, .int 7] (fun U => U.heap.size = sz ∧ va_P (dC, dI) clA [] U.heap ∧ va_K (dC, dI) clA [(cI, .int), (cL, .long), (cZ, .boolean)] U ∧ va_D (fun _ => True) [] ∧ NwA U)) (va_Qi (fun r (_ : Unit) => r = 0) (fun _ t => va_P (dC, dI) clA [] t.heap ∧ va_D (va_A [] sz) []) (va_A [] sz)) 0 0 (va_A [] sz) := by
  refine Met.ofW (cc := prog_1_method_17_code) (maxL := 3) (ret := (some .boolean)) (by decide) rfl ?_
  intro p e s m args below meth c s₁ B hml hv
  obtain ⟨rfl, hsz, hP, hK, hD0, hN⟩ := hv
  have hx := B.exec
  have hb := B.bytes
  have hr := B.returns
  have ht : ∀ w ∈ wsA, w.before _ s = true := fun w h => atoms_spec (ws := (Cond.code y_NU_has prog_1_method_17_code 3 (some .boolean) :: wsA)) B.pre w (List.mem_cons_of_mem _ h)
  have hown : s.vm.findClass "NetUnfolder" = some m.cls := findClass_of_methodNamed B.named
  have hlocks := B.notSynchronized
  subst hsz
  have hD := hD0.self (sz := s.heap.size)
  generalize hAe : va_A [] s.heap.size = A at hD ⊢
  have hA : ∀ q : Nat, s.heap.size ≤ q → A q := fun q h => by rw [← hAe]; exact Or.inr h
  have hS : va_S A s.heap s.heap [] := va_S.rf
  have hl := lv_entry ([.long 0, .int 7]) (n := 3) (Nat.le_of_ble_eq_true rfl)
  rw [lg_entry_eq]
  generalize (lg_sl ([.long 0, .int 7]) ++ List.replicate (3 - (lg_sl ([.long 0, .int 7])).length) Slot.unset).toArray = ls at hl ⊢
  replace hl : lv_has ls 3 [(0, .long 0), (2, .int 7)] := hl
  refine lv_lload_n hx hb d_NU_has_0 rfl (lv_at hl 0 rfl) ?_
  refine lv_iload_n hx hb d_NU_has_1 rfl (lv_at hl 1 rfl) ?_
  refine lv_lushr (v := 0) hx hb d_NU_has_2 (by decide) ?_
  refine lv_lconst (v := 1) hx hb d_NU_has_3 (by decide) ?_
  refine lv_land hx hb d_NU_has_4 ?_
  refine ci_l (y := 0) (by decide) ?_
  refine lv_lconst (v := 0) hx hb d_NU_has_5 (by decide) ?_
  refine W.lcmp hx hb d_NU_has_6 ?_
  refine ci_i (y := 0) (by decide) ?_
  refine lv_if_eq (tgt := 14) hx hb d_NU_has_7 (by decide) (fun _ => ?_) (fun h => (h (by decide)).elim)
  refine lv_iconst (v := 0) hx hb d_NU_has_14 (by decide) ?_
  have hP9 := hP.sub (ws' := []) [] rfl
  have hD9 := hD.sub (ws' := []) [] (by decide) rfl
  exact W.zret (v := 0) hx hb hr rfl (fun t ht9 hW => ⟨⟨0, (), rfl, rfl, by rw [ht9]; exact hP9, hD9⟩, hS.F ht9⟩) hS.2.2 d_NU_has_15

set_option maxHeartbeats 4000000 in
set_option maxRecDepth 100000 in
theorem c_Ig_bitCount_0 (l : Launch) (dC : Nat → ClassId) (dI : Nat → Nat → Nat) (cI cL cZ : ClassId) (sz : Nat) : Met l y_Ig_bitCount (Cond.code y_Ig_bitCount prog_15_method_49_code 1 (some .int) :: wsA) { frames := 0, cells := 0, slots := 0, locals := 0 } (va_Pc [.int 0] (fun U => U.heap.size = sz ∧ va_P (dC, dI) clA [] U.heap ∧ va_K (dC, dI) clA [(cI, .int), (cL, .long), (cZ, .boolean)] U ∧ va_D (fun _ => True) [] ∧ NwA U)) (va_Qi (fun r (_ : Unit) => r = 0) (fun _ t => va_P (dC, dI) clA [] t.heap ∧ va_D (va_A [] sz) []) (va_A [] sz)) 0 0 (va_A [] sz) := by
  refine Met.ofW (cc := prog_15_method_49_code) (maxL := 1) (ret := (some .int)) (by decide) rfl ?_
  intro p e s m args below meth c s₁ B hml hv
  obtain ⟨rfl, hsz, hP, hK, hD0, hN⟩ := hv
  have hx := B.exec
  have hb := B.bytes
  have hr := B.returns
  have ht : ∀ w ∈ wsA, w.before _ s = true := fun w h => atoms_spec (ws := (Cond.code y_Ig_bitCount prog_15_method_49_code 1 (some .int) :: wsA)) B.pre w (List.mem_cons_of_mem _ h)
  have hown : s.vm.findClass "java/lang/Integer" = some m.cls := findClass_of_methodNamed B.named
  have hlocks := B.notSynchronized
  subst hsz
  have hD := hD0.self (sz := s.heap.size)
  generalize hAe : va_A [] s.heap.size = A at hD ⊢
  have hA : ∀ q : Nat, s.heap.size ≤ q → A q := fun q h => by rw [← hAe]; exact Or.inr h
  have hS : va_S A s.heap s.heap [] := va_S.rf
  have hl := lv_entry ([.int 0]) (n := 1) (Nat.le_of_ble_eq_true rfl)
  rw [lg_entry_eq]
  generalize (lg_sl ([.int 0]) ++ List.replicate (1 - (lg_sl ([.int 0])).length) Slot.unset).toArray = ls at hl ⊢
  replace hl : lv_has ls 1 [(0, .int 0)] := hl
  refine lv_iload_n hx hb d_Ig_bitCount_0 rfl (lv_at hl 0 rfl) ?_
  refine lv_iload_n hx hb d_Ig_bitCount_1 rfl (lv_at hl 0 rfl) ?_
  refine lv_iconst (v := 1) hx hb d_Ig_bitCount_2 (by decide) ?_
  refine lv_iushr (v := 0) hx hb d_Ig_bitCount_3 (by decide) ?_
  refine lv_ldcw hx hb hown (ht _ wd_2_127) d_Ig_bitCount_4 ?_
  refine lv_iand hx hb d_Ig_bitCount_7 ?_
  refine ci_i (y := 0) (by decide) ?_
  refine lv_isub hx hb d_Ig_bitCount_8 ?_
  refine ci_i (y := 0) (by decide) ?_
  refine lv_istore_n (lv' := [(0, .int 0)]) hx hb d_Ig_bitCount_9 rfl hl (by decide) rfl (fun ls hln => ?_)
  replace hl : lv_has ls 1 [(0, .int 0)] := hln
  clear hln
  refine lv_iload_n hx hb d_Ig_bitCount_10 rfl (lv_at hl 0 rfl) ?_
  refine lv_ldcw hx hb hown (ht _ wd_2_128) d_Ig_bitCount_11 ?_
  refine lv_iand hx hb d_Ig_bitCount_14 ?_
  refine ci_i (y := 0) (by decide) ?_
  refine lv_iload_n hx hb d_Ig_bitCount_15 rfl (lv_at hl 0 rfl) ?_
  refine lv_iconst (v := 2) hx hb d_Ig_bitCount_16 (by decide) ?_
  refine lv_iushr (v := 0) hx hb d_Ig_bitCount_17 (by decide) ?_
  refine lv_ldcw hx hb hown (ht _ wd_2_128) d_Ig_bitCount_18 ?_
  refine lv_iand hx hb d_Ig_bitCount_21 ?_
  refine ci_i (y := 0) (by decide) ?_
  refine lv_iadd hx hb d_Ig_bitCount_22 ?_
  refine ci_i (y := 0) (by decide) ?_
  refine lv_istore_n (lv' := [(0, .int 0)]) hx hb d_Ig_bitCount_23 rfl hl (by decide) rfl (fun ls hln => ?_)
  replace hl : lv_has ls 1 [(0, .int 0)] := hln
  clear hln
  refine lv_iload_n hx hb d_Ig_bitCount_24 rfl (lv_at hl 0 rfl) ?_
  refine lv_iload_n hx hb d_Ig_bitCount_25 rfl (lv_at hl 0 rfl) ?_
  refine lv_iconst (v := 4) hx hb d_Ig_bitCount_26 (by decide) ?_
  refine lv_iushr (v := 0) hx hb d_Ig_bitCount_27 (by decide) ?_
  refine lv_iadd hx hb d_Ig_bitCount_28 ?_
  refine ci_i (y := 0) (by decide) ?_
  refine lv_ldcw hx hb hown (ht _ wd_2_129) d_Ig_bitCount_29 ?_
  refine lv_iand hx hb d_Ig_bitCount_32 ?_
  refine ci_i (y := 0) (by decide) ?_
  refine lv_istore_n (lv' := [(0, .int 0)]) hx hb d_Ig_bitCount_33 rfl hl (by decide) rfl (fun ls hln => ?_)
  replace hl : lv_has ls 1 [(0, .int 0)] := hln
  clear hln
  refine lv_iload_n hx hb d_Ig_bitCount_34 rfl (lv_at hl 0 rfl) ?_
  refine lv_iload_n hx hb d_Ig_bitCount_35 rfl (lv_at hl 0 rfl) ?_
  refine lv_bipush (v := 8) hx hb d_Ig_bitCount_36 (by decide) ?_
  refine lv_iushr (v := 0) hx hb d_Ig_bitCount_38 (by decide) ?_
  refine lv_iadd hx hb d_Ig_bitCount_39 ?_
  refine ci_i (y := 0) (by decide) ?_
  refine lv_istore_n (lv' := [(0, .int 0)]) hx hb d_Ig_bitCount_40 rfl hl (by decide) rfl (fun ls hln => ?_)
  replace hl : lv_has ls 1 [(0, .int 0)] := hln
  clear hln
  refine lv_iload_n hx hb d_Ig_bitCount_41 rfl (lv_at hl 0 rfl) ?_
  refine lv_iload_n hx hb d_Ig_bitCount_42 rfl (lv_at hl 0 rfl) ?_
  refine lv_bipush (v := 16) hx hb d_Ig_bitCount_43 (by decide) ?_
  refine lv_iushr (v := 0) hx hb d_Ig_bitCount_45 (by decide) ?_
  refine lv_iadd hx hb d_Ig_bitCount_46 ?_
  refine ci_i (y := 0) (by decide) ?_
  refine lv_istore_n (lv' := [(0, .int 0)]) hx hb d_Ig_bitCount_47 rfl hl (by decide) rfl (fun ls hln => ?_)
  replace hl : lv_has ls 1 [(0, .int 0)] := hln
  clear hln
  refine lv_iload_n hx hb d_Ig_bitCount_48 rfl (lv_at hl 0 rfl) ?_
  refine lv_bipush (v := 63) hx hb d_Ig_bitCount_49 (by decide) ?_
  refine lv_iand hx hb d_Ig_bitCount_51 ?_
  refine ci_i (y := 0) (by decide) ?_
  have hP9 := hP.sub (ws' := []) [] rfl
  have hD9 := hD.sub (ws' := []) [] (by decide) rfl
  exact W.iret (v := 0) hx hb hr (fun t ht9 hW => ⟨⟨0, (), rfl, rfl, by rw [ht9]; exact hP9, hD9⟩, hS.F ht9⟩) hS.2.2 d_Ig_bitCount_52
