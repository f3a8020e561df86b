set_option maxHeartbeats 4000000 in
set_option maxRecDepth 100000 in
theorem c_NU_has (l : Launch) (dC : Nat → ClassId) (dI : Nat → Nat → Nat) (cI cL cZ : ClassId) (sz : Nat) (x : Int64) (k : Nat) (hk : k < 64) : Met l y_NU_has (Cond.code y_NU_has prog_1_method_17_code 3 (some .boolean) :: wsA) { frames := 0, cells := 0, slots := 0, locals := 0 } (va_Pc [.long x, .int (nI k)] (fun U => U.heap.size = sz ∧ va_P (dC, dI) clA [] U.heap ∧ va_K (dC, dI) clA [(cI, .int), (cL, .long), (cZ, .boolean)] U ∧ va_D (fun _ => True) [] ∧ NwA U)) (va_Qi (fun r (_ : Unit) => r = hasv x k) (fun _ t => va_P (dC, dI) clA [] t.heap ∧ va_D (va_A [] sz) []) (va_A [] sz)) 0 0 (va_A [] sz) := by
  refine Met.ofW (cc := prog_1_method_17_code) (maxL := 3) (ret := (some .boolean)) (by decide) rfl ?_
  intro p e s m args below meth c s₁ B hml hv
  obtain ⟨rfl, hsz, hP, hK, hD0, hN⟩ := hv
  have hx := B.exec
  have hb := B.bytes
  have hr := B.returns
  have ht : ∀ w ∈ wsA, w.before _ s = true := fun w h => atoms_spec (ws := (Cond.code y_NU_has prog_1_method_17_code 3 (some .boolean) :: wsA)) B.pre w (List.mem_cons_of_mem _ h)
  have hown : s.vm.findClass "NetUnfolder" = some m.cls := findClass_of_methodNamed B.named
  have hlocks := B.notSynchronized
  subst hsz
  have hD := hD0.self (sz := s.heap.size)
  generalize hAe : va_A [] s.heap.size = A at hD ⊢
  have hA : ∀ q : Nat, s.heap.size ≤ q → A q := fun q h => by rw [← hAe]; exact Or.inr h
  have hS : va_S A s.heap s.heap [] := va_S.rf
  have hl := lv_entry ([.long x, .int (nI k)]) (n := 3) (Nat.le_of_ble_eq_true rfl)
  rw [lg_entry_eq]
  generalize (lg_sl ([.long x, .int (nI k)]) ++ List.replicate (3 - (lg_sl ([.long x, .int (nI k)])).length) Slot.unset).toArray = ls at hl ⊢
  replace hl : lv_has ls 3 [(0, .long x), (2, .int (nI k))] := hl
  refine W_Q (fun Q hQ => ?_)
  refine lv_lload_n hx hb d_NU_has_0 rfl (lv_at hl 0 rfl) ?_
  refine lv_iload_n hx hb d_NU_has_1 rfl (lv_at hl 1 rfl) ?_
  refine lv_lushr (v := (Int64.toUInt64 x >>> ((Int32.toInt64 (nI k)).toUInt64 &&& Int64.toUInt64 63)).toInt64) hx hb d_NU_has_2 rfl ?_
  refine lv_lconst (v := 1) hx hb d_NU_has_3 (by decide) ?_
  refine lv_land hx hb d_NU_has_4 ?_
  refine lv_lconst (v := 0) hx hb d_NU_has_5 (by decide) ?_
  refine W.lcmp hx hb d_NU_has_6 ?_
  refine lv_if_eq (tgt := 14) hx hb d_NU_has_7 (by decide) (fun hb1 => ?_) (fun hb1 => ?_)
  · skip
    refine lv_iconst (v := 0) hx hb d_NU_has_14 (by decide) ?_
    have hP9 := hP.sub (ws' := []) [] rfl
    have hD9 := hD.sub (ws' := []) [] (by decide) rfl
    subst hQ
    exact W.zret (v := 0) hx hb hr rfl (fun t9 ht9 hW => ⟨⟨0, (), rfl, (hs_u0 (by omega) hb1), by rw [ht9]; exact hP9, hD9⟩, hS.F ht9⟩) hS.2.2 d_NU_has_15
  · skip
    refine lv_iconst (v := 1) hx hb d_NU_has_10 (by decide) ?_
    refine lv_goto (tgt := 15) hx hb d_NU_has_11 (by decide) ?_
    have hP9 := hP.sub (ws' := []) [] rfl
    have hD9 := hD.sub (ws' := []) [] (by decide) rfl
    subst hQ
    exact W.zret (v := 1) hx hb hr rfl (fun t9 ht9 hW => ⟨⟨1, (), rfl, (hs_u1 (by omega) hb1), by rw [ht9]; exact hP9, hD9⟩, hS.F ht9⟩) hS.2.2 d_NU_has_15

set_option maxHeartbeats 4000000 in
set_option maxRecDepth 100000 in
theorem c_Mo_has (l : Launch) (dC : Nat → ClassId) (dI : Nat → Nat → Nat) (cI cL cZ : ClassId) (sz : Nat) (x : Int64) (k : Nat) (hk : k < 64) : Met l y_Mo_has (Cond.code y_Mo_has prog_11_method_5_code 3 (some .boolean) :: wsA) { frames := 0, cells := 0, slots := 0, locals := 0 } (va_Pc [.long x, .int (nI k)] (fun U => U.heap.size = sz ∧ va_P (dC, dI) clA [] U.heap ∧ va_K (dC, dI) clA [(cI, .int), (cL, .long), (cZ, .boolean)] U ∧ va_D (fun _ => True) [] ∧ NwA U)) (va_Qi (fun r (_ : Unit) => r = hasv x k) (fun _ t => va_P (dC, dI) clA [] t.heap ∧ va_D (va_A [] sz) []) (va_A [] sz)) 0 0 (va_A [] sz) := by
  refine Met.ofW (cc := prog_11_method_5_code) (maxL := 3) (ret := (some .boolean)) (by decide) rfl ?_
  intro p e s m args below meth c s₁ B hml hv
  obtain ⟨rfl, hsz, hP, hK, hD0, hN⟩ := hv
  have hx := B.exec
  have hb := B.bytes
  have hr := B.returns
  have ht : ∀ w ∈ wsA, w.before _ s = true := fun w h => atoms_spec (ws := (Cond.code y_Mo_has prog_11_method_5_code 3 (some .boolean) :: wsA)) B.pre w (List.mem_cons_of_mem _ h)
  have hown : s.vm.findClass "NetUnfolderModel" = some m.cls := findClass_of_methodNamed B.named
  have hlocks := B.notSynchronized
  subst hsz
  have hD := hD0.self (sz := s.heap.size)
  generalize hAe : va_A [] s.heap.size = A at hD ⊢
  have hA : ∀ q : Nat, s.heap.size ≤ q → A q := fun q h => by rw [← hAe]; exact Or.inr h
  have hS : va_S A s.heap s.heap [] := va_S.rf
  have hl := lv_entry ([.long x, .int (nI k)]) (n := 3) (Nat.le_of_ble_eq_true rfl)
  rw [lg_entry_eq]
  generalize (lg_sl ([.long x, .int (nI k)]) ++ List.replicate (3 - (lg_sl ([.long x, .int (nI k)])).length) Slot.unset).toArray = ls at hl ⊢
  replace hl : lv_has ls 3 [(0, .long x), (2, .int (nI k))] := hl
  refine W_Q (fun Q hQ => ?_)
  refine lv_lload_n hx hb d_Mo_has_0 rfl (lv_at hl 0 rfl) ?_
  refine lv_iload_n hx hb d_Mo_has_1 rfl (lv_at hl 1 rfl) ?_
  refine lv_lshr (v := x >>> (Int32.toInt64 (nI k) &&& 63)) hx hb d_Mo_has_2 rfl ?_
  refine lv_lconst (v := 1) hx hb d_Mo_has_3 (by decide) ?_
  refine lv_land hx hb d_Mo_has_4 ?_
  refine lv_lconst (v := 1) hx hb d_Mo_has_5 (by decide) ?_
  refine W.lcmp hx hb d_Mo_has_6 ?_
  refine lv_if_ne (tgt := 14) hx hb d_Mo_has_7 (by decide) (fun hb1 => ?_) (fun hb1 => ?_)
  · skip
    refine lv_iconst (v := 0) hx hb d_Mo_has_14 (by decide) ?_
    have hP9 := hP.sub (ws' := []) [] rfl
    have hD9 := hD.sub (ws' := []) [] (by decide) rfl
    subst hQ
    exact W.zret (v := 0) hx hb hr rfl (fun t9 ht9 hW => ⟨⟨0, (), rfl, (hs_s0 (by omega) hb1), by rw [ht9]; exact hP9, hD9⟩, hS.F ht9⟩) hS.2.2 d_Mo_has_15
  · skip
    refine lv_iconst (v := 1) hx hb d_Mo_has_10 (by decide) ?_
    refine lv_goto (tgt := 15) hx hb d_Mo_has_11 (by decide) ?_
    have hP9 := hP.sub (ws' := []) [] rfl
    have hD9 := hD.sub (ws' := []) [] (by decide) rfl
    subst hQ
    exact W.zret (v := 1) hx hb hr rfl (fun t9 ht9 hW => ⟨⟨1, (), rfl, (hs_s1 (by omega) hb1), by rw [ht9]; exact hP9, hD9⟩, hS.F ht9⟩) hS.2.2 d_Mo_has_15

set_option maxHeartbeats 4000000 in
set_option maxRecDepth 100000 in
theorem c_NU_isMarking (l : Launch) (dC : Nat → ClassId) (dI : Nat → Nat → Nat) (cI cL cZ : ClassId) (sz : Nat) (x : Int32) : Met l y_NU_isMarking (Cond.code y_NU_isMarking prog_1_method_16_code 1 (some .boolean) :: wsA) { frames := 0, cells := 0, slots := 0, locals := 0 } (va_Pc [.int x] (fun U => U.heap.size = sz ∧ va_P (dC, dI) clA [] U.heap ∧ va_K (dC, dI) clA [(cI, .int), (cL, .long), (cZ, .boolean)] U ∧ va_D (fun _ => True) [] ∧ NwA U)) (va_Qi (fun r (_ : Unit) => r = isMv x) (fun _ t => va_P (dC, dI) clA [] t.heap ∧ va_D (va_A [] sz) []) (va_A [] sz)) 0 0 (va_A [] sz) := by
  refine Met.ofW (cc := prog_1_method_16_code) (maxL := 1) (ret := (some .boolean)) (by decide) rfl ?_
  intro p e s m args below meth c s₁ B hml hv
  obtain ⟨rfl, hsz, hP, hK, hD0, hN⟩ := hv
  have hx := B.exec
  have hb := B.bytes
  have hr := B.returns
  have ht : ∀ w ∈ wsA, w.before _ s = true := fun w h => atoms_spec (ws := (Cond.code y_NU_isMarking prog_1_method_16_code 1 (some .boolean) :: wsA)) B.pre w (List.mem_cons_of_mem _ h)
  have hown : s.vm.findClass "NetUnfolder" = some m.cls := findClass_of_methodNamed B.named
  have hlocks := B.notSynchronized
  subst hsz
  have hD := hD0.self (sz := s.heap.size)
  generalize hAe : va_A [] s.heap.size = A at hD ⊢
  have hA : ∀ q : Nat, s.heap.size ≤ q → A q := fun q h => by rw [← hAe]; exact Or.inr h
  have hS : va_S A s.heap s.heap [] := va_S.rf
  have hl := lv_entry ([.int x]) (n := 1) (Nat.le_of_ble_eq_true rfl)
  rw [lg_entry_eq]
  generalize (lg_sl ([.int x]) ++ List.replicate (1 - (lg_sl ([.int x])).length) Slot.unset).toArray = ls at hl ⊢
  replace hl : lv_has ls 1 [(0, .int x)] := hl
  refine W_Q (fun Q hQ => ?_)
  refine lv_iload_n hx hb d_NU_isMarking_0 rfl (lv_at hl 0 rfl) ?_
  refine lv_if_lt (tgt := 15) hx hb d_NU_isMarking_1 (by decide) (fun hb1 => ?_) (fun hb1 => ?_)
  · skip
    refine lv_iconst (v := 0) hx hb d_NU_isMarking_15 (by decide) ?_
    have hP9 := hP.sub (ws' := []) [] rfl
    have hD9 := hD.sub (ws' := []) [] (by decide) rfl
    subst hQ
    exact W.zret (v := 0) hx hb hr rfl (fun t9 ht9 hW => ⟨⟨0, (), rfl, (by simp [isMv, *]), by rw [ht9]; exact hP9, hD9⟩, hS.F ht9⟩) hS.2.2 d_NU_isMarking_16
  · skip
    refine lv_iload_n hx hb d_NU_isMarking_4 rfl (lv_at hl 0 rfl) ?_
    refine lv_sipush (v := 255) hx hb d_NU_isMarking_5 (by decide) ?_
    refine lv_icmp_gt (tgt := 15) hx hb d_NU_isMarking_8 (by decide) (fun hb2 => ?_) (fun hb2 => ?_)
    · skip
      refine lv_iconst (v := 0) hx hb d_NU_isMarking_15 (by decide) ?_
      have hP9 := hP.sub (ws' := []) [] rfl
      have hD9 := hD.sub (ws' := []) [] (by decide) rfl
      subst hQ
      exact W.zret (v := 0) hx hb hr rfl (fun t9 ht9 hW => ⟨⟨0, (), rfl, (by simp [isMv, *]), by rw [ht9]; exact hP9, hD9⟩, hS.F ht9⟩) hS.2.2 d_NU_isMarking_16
    · skip
      refine lv_iconst (v := 1) hx hb d_NU_isMarking_11 (by decide) ?_
      refine lv_goto (tgt := 16) hx hb d_NU_isMarking_12 (by decide) ?_
      have hP9 := hP.sub (ws' := []) [] rfl
      have hD9 := hD.sub (ws' := []) [] (by decide) rfl
      subst hQ
      exact W.zret (v := 1) hx hb hr rfl (fun t9 ht9 hW => ⟨⟨1, (), rfl, (by simp [isMv, *]), by rw [ht9]; exact hP9, hD9⟩, hS.F ht9⟩) hS.2.2 d_NU_isMarking_16

set_option maxHeartbeats 4000000 in
set_option maxRecDepth 100000 in
theorem c_Ne_wipe (l : Launch) (dC : Nat → ClassId) (dI : Nat → Nat → Nat) (cI cL cZ : ClassId) (sz : Nat) (n0 : Nat) (n1 : Nat) (n2 : Nat) (nz : Nat) (nf : Int32) : Met l y_Ne_wipe (Cond.code y_Ne_wipe prog_3_method_2_code 1 none :: wsA) { frames := 0, cells := 0, slots := 0, locals := 0 } (va_Pc [.ref n0] (fun U => U.heap.size = sz ∧ va_P (dC, dI) clA [(n0, .inr (1, [.ref n1, .ref n2, .int (nI nz), .int nf]))] U.heap ∧ va_K (dC, dI) clA [(cI, .int), (cL, .long), (cZ, .boolean)] U ∧ va_D (fun _ => True) [(n0, .inr (1, [.ref n1, .ref n2, .int (nI nz), .int nf]))] ∧ NwA U)) (va_Qv (fun _ : Unit => True) (fun _ t => va_P (dC, dI) clA [(n0, .inr (1, [.ref n1, .ref n2, .int 0, .int 0]))] t.heap ∧ va_D (va_A [(n0, .inr (1, [.ref n1, .ref n2, .int (nI nz), .int nf]))] sz) [(n0, .inr (1, [.ref n1, .ref n2, .int 0, .int 0]))]) (va_A [(n0, .inr (1, [.ref n1, .ref n2, .int (nI nz), .int nf]))] sz)) 0 0 (va_A [(n0, .inr (1, [.ref n1, .ref n2, .int (nI nz), .int nf]))] sz) := by
  refine Met.ofW (cc := prog_3_method_2_code) (maxL := 1) (ret := none) (by decide) rfl ?_
  intro p e s m args below meth c s₁ B hml hv
  obtain ⟨rfl, hsz, hP, hK, hD0, hN⟩ := hv
  have hx := B.exec
  have hb := B.bytes
  have hr := B.returns
  have ht : ∀ w ∈ wsA, w.before _ s = true := fun w h => atoms_spec (ws := (Cond.code y_Ne_wipe prog_3_method_2_code 1 none :: wsA)) B.pre w (List.mem_cons_of_mem _ h)
  have hown : s.vm.findClass "NetUnfolder$Net" = some m.cls := findClass_of_methodNamed B.named
  have hlocks := B.notSynchronized
  subst hsz
  have hD := hD0.self (sz := s.heap.size)
  generalize hAe : va_A [(n0, .inr (1, [.ref n1, .ref n2, .int (nI nz), .int nf]))] s.heap.size = A at hD ⊢
  have hA : ∀ q : Nat, s.heap.size ≤ q → A q := fun q h => by rw [← hAe]; exact Or.inr h
  have hS : va_S A s.heap s.heap [] := va_S.rf
  have hl := lv_entry ([.ref n0]) (n := 1) (Nat.le_of_ble_eq_true rfl)
  rw [lg_entry_eq]
  generalize (lg_sl ([.ref n0]) ++ List.replicate (1 - (lg_sl ([.ref n0])).length) Slot.unset).toArray = ls at hl ⊢
  replace hl : lv_has ls 1 [(0, .ref n0)] := hl
  refine W_Q (fun Q hQ => ?_)
  refine lv_aload_n hx hb d_Ne_wipe_0 rfl (lv_at hl 0 rfl) ?_
  refine lv_iconst (v := 0) hx hb d_Ne_wipe_1 (by decide) ?_
  refine va_put (D := (dC, dI)) (ci := 1) (v := .int 0) (ty := .int) (C := "NetUnfolder$Net") (T := T_Ne) (N := 4) hx hb ht in_Ne ty_Ne ok_Ne nm_Ne hown hK hP hD hS 0 rfl rfl 2 (by decide) (ht _ wd_1_38) (fun _ h9 => h9) rfl (by decide +kernel) rfl rfl (Nat.le_of_ble_eq_true rfl) d_Ne_wipe_2 (fun H1 locs hPn hDn hSn => ?_)
  replace hP : va_P (dC, dI) clA [(n0, .inr (1, [.ref n1, .ref n2, .int 0, .int nf]))] H1 := hPn
  replace hD : va_D A [(n0, .inr (1, [.ref n1, .ref n2, .int 0, .int nf]))] := hDn
  replace hS := hSn
  clear hPn hDn hSn
  refine lv_aload_n hx hb d_Ne_wipe_5 rfl (lv_at hl 0 rfl) ?_
  refine lv_iconst (v := 0) hx hb d_Ne_wipe_6 (by decide) ?_
  refine va_put (D := (dC, dI)) (ci := 1) (v := .int 0) (ty := .int) (C := "NetUnfolder$Net") (T := T_Ne) (N := 4) hx hb ht in_Ne ty_Ne ok_Ne nm_Ne hown hK hP hD hS 0 rfl rfl 3 (by decide) (ht _ wd_1_42) (fun _ h9 => h9) rfl (by decide +kernel) rfl rfl (Nat.le_of_ble_eq_true rfl) d_Ne_wipe_7 (fun H2 locs hPn hDn hSn => ?_)
  replace hP : va_P (dC, dI) clA [(n0, .inr (1, [.ref n1, .ref n2, .int 0, .int 0]))] H2 := hPn
  replace hD : va_D A [(n0, .inr (1, [.ref n1, .ref n2, .int 0, .int 0]))] := hDn
  replace hS := hSn
  clear hPn hDn hSn
  have hP9 := hP.sub (ws' := [(n0, .inr (1, [.ref n1, .ref n2, .int 0, .int 0]))]) [0] rfl
  have hD9 := hD.sub (ws' := [(n0, .inr (1, [.ref n1, .ref n2, .int 0, .int 0]))]) [0] (by decide) rfl
  subst hQ
  exact W.vret hx hb hr (fun t9 ht9 hW => ⟨⟨(), rfl, trivial, by rw [ht9]; exact hP9, hD9⟩, hS.F ht9⟩) hS.2.2 d_Ne_wipe_10
