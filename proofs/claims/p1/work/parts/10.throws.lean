set_option maxHeartbeats 4000000 in
set_option maxRecDepth 100000 in
theorem t_NU_transition_0 (l : Launch) (hfl : l.flags = flags0) (dC : Nat → ClassId) (dI : Nat → Nat → Nat) (cI cL cZ : ClassId) (sz : Nat) (a0 : Nat) (a1 : Nat) (a2 : Nat) (a3 : Nat) (a4 : Nat) (a5 : Nat) (k0 : Int32) (k1 : Int32) (h1 : k0 < 1) : tx_Met l y_NU_transition (Cond.code y_NU_transition prog_1_method_2_code 3 (some .int) :: wsA) { frames := 6, cells := 1, slots := 6, locals := 96 } (va_Pc [.ref a0, .int k0, .int k1] (fun U => U.heap.size = sz ∧ va_P (dC, dI) clA [(a0, .inr (0, [.ref a1, .ref a2, .ref a3, .ref a4, .ref a5]))] U.heap ∧ va_K (dC, dI) clA [(cI, .int), (cL, .long), (cZ, .boolean)] U ∧ va_D (fun _ => True) [(a0, .inr (0, [.ref a1, .ref a2, .ref a3, .ref a4, .ref a5]))] ∧ NwA U ∧ ThA (fun _ => False) U U.heap)) (tx_Q "java/lang/IllegalArgumentException") 1 6 := by
  refine tx_Met.ofW (cc := prog_1_method_2_code) (maxL := 3) (ret := (some .int)) (by decide) rfl ?_
  intro p e s m args below meth c s₁ B hml hv
  obtain ⟨rfl, hsz, hP, hK, hD0, hN, hT⟩ := hv
  have hx := B.exec
  have hb := B.bytes
  have hr := B.returns
  have ht : ∀ w ∈ wsA, w.before _ s = true := fun w h => atoms_spec (ws := (Cond.code y_NU_transition prog_1_method_2_code 3 (some .int) :: wsA)) B.pre w (List.mem_cons_of_mem _ h)
  have hown : s.vm.findClass "NetUnfolder" = some m.cls := findClass_of_methodNamed B.named
  have hlocks := B.notSynchronized
  have hout := B.noHandlers (atoms_spec (ws := (Cond.code y_NU_transition prog_1_method_2_code 3 (some .int) :: wsA)) B.pre _ List.mem_cons_self)
  have htr := Launch.traces_off hfl B.admits
  subst hsz
  have hS : va_S (fun q => s.heap.size ≤ q) s.heap s.heap [] := va_S.rf
  have hA : ∀ q : Nat, s.heap.size ≤ q → (fun q => s.heap.size ≤ q) q := fun q h => h
  have hl := lv_entry ([.ref a0, .int k0, .int k1]) (n := 3) (Nat.le_of_ble_eq_true rfl)
  rw [lg_entry_eq]
  generalize (lg_sl ([.ref a0, .int k0, .int k1]) ++ List.replicate (3 - (lg_sl ([.ref a0, .int k0, .int k1])).length) Slot.unset).toArray = ls at hl ⊢
  replace hl : lv_has ls 3 [(0, .ref a0), (1, .int k0), (2, .int k1)] := hl
  refine lv_iload_n hx hb d_NU_transition_0 rfl (lv_at hl 1 rfl) ?_
  refine lv_if_eq (tgt := 18) hx hb d_NU_transition_1 (by decide) (fun hb1 => ?_) (fun hb1 => ?_)
  · skip
    refine va_forget (fun q hq => hS.2.2 q hq) ?_
    refine W.newc hx hb hown (ht _ wd_3_13) (ht _ wd_3_14) (ht _ wd_1_14) (g := F0 m 18 ls []) rfl d_NU_transition_18 (Nat.le_of_ble_eq_true rfl) (Nat.le_of_ble_eq_true rfl) (fun cX kX hfX hkX _ _ => ?_)
    refine W.eq (g2 := F0 m 21 ls (.ref _ :: [])) rfl ?_
    refine lv_dup hx hb d_NU_transition_21 rfl ?_
    refine W.cs (cells' := 1) (slots' := 6) rfl rfl ?_
    exact tx_throw0 (own := "NetUnfolder") (cls := "java/lang/IllegalArgumentException") (names := ["java/lang/RuntimeException", "java/lang/Exception"]) (ic := 52) hx hb htr hown (by decide +kernel) (by decide +kernel) (fun a ha => own_before (oa_IAE a ha) ht hT) hfX hkX (by simp) hS.1 (by rw [hml]; exact hl.1) d_NU_transition_22 d_NU_transition_25 hout (Nat.le_of_ble_eq_true rfl) (Nat.le_of_ble_eq_true rfl) hlocks (fun U _ h => h)
  · skip
    refine lv_iload_n hx hb d_NU_transition_4 rfl (lv_at hl 1 rfl) ?_
    have hPc : va_P (dC, dI) clA [] _ := pu_P (H := s.heap)
    have hDc : va_D (fun _ => True) [] := pu_D
    have hFc := pu_free hS hA
    refine va_calli (va_runS (As := [.int k0]) (rest := []) ⟨hx, hb, hml, hown, ht⟩ (c_NU_isMarking_lo l dC dI cI cL cZ _ k0 (ga_lt (k := 0) (by decide) (by have eh1 := fa_lt (k := 1) (by decide) h1; have ehb1 := fa_ne (k := 0) (by decide) hb1; omega))) (va_cwS 1 ht (good_S wd_3_10 wd_3_11 wd_1_1 wd_3_12) rfl rfl rfl (by decide +kernel) ⟨Nat.le_of_ble_eq_true rfl, Nat.le_of_ble_eq_true rfl⟩) ⟨fun a U g mk q => by obtain ⟨q0, q1, qP, qK, qD, qN⟩ := q; exact ⟨q0, q1, qP, va_K.moved (u := U) (U := U.calling g mk a) (Vm.Alike.refl U.vm) qK, qD, NwA.same (u := U) rfl qN⟩, fun U hU hW => ⟨rfl, by rw [hU], by rw [hU]; exact hPc, va_K.moved hW.alike hK, hDc.weaken (fun _ _ _ _ => trivial), NwA.warm hW hN⟩⟩ rfl rfl hl.1 rfl (lv_room (Nat.le_of_ble_eq_true rfl)) d_NU_transition_5 ⟨Nat.le_of_ble_eq_true rfl, Nat.le_of_ble_eq_true rfl⟩) hS (fun q _ h => hFc q h) hFc (fun r9 u t H2 locs ht9 hvm hw3 hB hz1 hk1 hSn => ?_)
    replace hP : va_P (dC, dI) clA [(a0, .inr (0, [.ref a1, .ref a2, .ref a3, .ref a4, .ref a5]))] H2 := pu_keep hP hk1
    replace hS := hSn
    clear hSn hPc hDc hFc hk1 hz1 ht9 hvm hB
    refine W.cs (cells' := 0) (slots' := 0) rfl rfl ?_
    subst hw3
    refine lv_if_eq (tgt := 18) hx hb d_NU_transition_8 (by decide) (fun _ => ?_) (fun h => (h (by decide)).elim)
    refine va_forget (fun q hq => hS.2.2 q hq) ?_
    refine W.newc hx hb hown (ht _ wd_3_13) (ht _ wd_3_14) (ht _ wd_1_14) (g := F0 m 18 ls []) rfl d_NU_transition_18 (Nat.le_of_ble_eq_true rfl) (Nat.le_of_ble_eq_true rfl) (fun cX kX hfX hkX _ _ => ?_)
    refine W.eq (g2 := F0 m 21 ls (.ref _ :: [])) rfl ?_
    refine lv_dup hx hb d_NU_transition_21 rfl ?_
    refine W.cs (cells' := 1) (slots' := 6) rfl rfl ?_
    exact tx_throw0 (own := "NetUnfolder") (cls := "java/lang/IllegalArgumentException") (names := ["java/lang/RuntimeException", "java/lang/Exception"]) (ic := 52) hx hb htr hown (by decide +kernel) (by decide +kernel) (fun a ha => own_before (oa_IAE a ha) ht hT) hfX hkX (by simp) hS.1 (by rw [hml]; exact hl.1) d_NU_transition_22 d_NU_transition_25 hout (Nat.le_of_ble_eq_true rfl) (Nat.le_of_ble_eq_true rfl) hlocks (fun U _ h => h)

set_option maxHeartbeats 4000000 in
set_option maxRecDepth 100000 in
theorem t_NU_transition_1 (l : Launch) (hfl : l.flags = flags0) (dC : Nat → ClassId) (dI : Nat → Nat → Nat) (cI cL cZ : ClassId) (sz : Nat) (a0 : Nat) (a1 : Nat) (a2 : Nat) (a3 : Nat) (a4 : Nat) (a5 : Nat) (k0 : Int32) (k1 : Int32) (h2 : 255 < k0) : tx_Met l y_NU_transition (Cond.code y_NU_transition prog_1_method_2_code 3 (some .int) :: wsA) { frames := 6, cells := 1, slots := 6, locals := 96 } (va_Pc [.ref a0, .int k0, .int k1] (fun U => U.heap.size = sz ∧ va_P (dC, dI) clA [(a0, .inr (0, [.ref a1, .ref a2, .ref a3, .ref a4, .ref a5]))] U.heap ∧ va_K (dC, dI) clA [(cI, .int), (cL, .long), (cZ, .boolean)] U ∧ va_D (fun _ => True) [(a0, .inr (0, [.ref a1, .ref a2, .ref a3, .ref a4, .ref a5]))] ∧ NwA U ∧ ThA (fun _ => False) U U.heap)) (tx_Q "java/lang/IllegalArgumentException") 1 6 := by
  refine tx_Met.ofW (cc := prog_1_method_2_code) (maxL := 3) (ret := (some .int)) (by decide) rfl ?_
  intro p e s m args below meth c s₁ B hml hv
  obtain ⟨rfl, hsz, hP, hK, hD0, hN, hT⟩ := hv
  have hx := B.exec
  have hb := B.bytes
  have hr := B.returns
  have ht : ∀ w ∈ wsA, w.before _ s = true := fun w h => atoms_spec (ws := (Cond.code y_NU_transition prog_1_method_2_code 3 (some .int) :: wsA)) B.pre w (List.mem_cons_of_mem _ h)
  have hown : s.vm.findClass "NetUnfolder" = some m.cls := findClass_of_methodNamed B.named
  have hlocks := B.notSynchronized
  have hout := B.noHandlers (atoms_spec (ws := (Cond.code y_NU_transition prog_1_method_2_code 3 (some .int) :: wsA)) B.pre _ List.mem_cons_self)
  have htr := Launch.traces_off hfl B.admits
  subst hsz
  have hS : va_S (fun q => s.heap.size ≤ q) s.heap s.heap [] := va_S.rf
  have hA : ∀ q : Nat, s.heap.size ≤ q → (fun q => s.heap.size ≤ q) q := fun q h => h
  have hl := lv_entry ([.ref a0, .int k0, .int k1]) (n := 3) (Nat.le_of_ble_eq_true rfl)
  rw [lg_entry_eq]
  generalize (lg_sl ([.ref a0, .int k0, .int k1]) ++ List.replicate (3 - (lg_sl ([.ref a0, .int k0, .int k1])).length) Slot.unset).toArray = ls at hl ⊢
  replace hl : lv_has ls 3 [(0, .ref a0), (1, .int k0), (2, .int k1)] := hl
  refine lv_iload_n hx hb d_NU_transition_0 rfl (lv_at hl 1 rfl) ?_
  refine lv_if_eq (tgt := 18) hx hb d_NU_transition_1 (by decide) (fun h9 => (by exfalso; have eh2 := fb_lt (k := 255) (by decide) h2; have eh9 := fa_eq (k := 0) (by decide) h9; omega)) (fun _ => ?_)
  refine lv_iload_n hx hb d_NU_transition_4 rfl (lv_at hl 1 rfl) ?_
  have hPc : va_P (dC, dI) clA [] _ := pu_P (H := s.heap)
  have hDc : va_D (fun _ => True) [] := pu_D
  have hFc := pu_free hS hA
  refine va_calli (va_runS (As := [.int k0]) (rest := []) ⟨hx, hb, hml, hown, ht⟩ (c_NU_isMarking_hi l dC dI cI cL cZ _ k0 h2) (va_cwS 1 ht (good_S wd_3_10 wd_3_11 wd_1_1 wd_3_12) rfl rfl rfl (by decide +kernel) ⟨Nat.le_of_ble_eq_true rfl, Nat.le_of_ble_eq_true rfl⟩) ⟨fun a U g mk q => by obtain ⟨q0, q1, qP, qK, qD, qN⟩ := q; exact ⟨q0, q1, qP, va_K.moved (u := U) (U := U.calling g mk a) (Vm.Alike.refl U.vm) qK, qD, NwA.same (u := U) rfl qN⟩, fun U hU hW => ⟨rfl, by rw [hU], by rw [hU]; exact hPc, va_K.moved hW.alike hK, hDc.weaken (fun _ _ _ _ => trivial), NwA.warm hW hN⟩⟩ rfl rfl hl.1 rfl (lv_room (Nat.le_of_ble_eq_true rfl)) d_NU_transition_5 ⟨Nat.le_of_ble_eq_true rfl, Nat.le_of_ble_eq_true rfl⟩) hS (fun q _ h => hFc q h) hFc (fun r9 u t H1 locs ht9 hvm hw2 hB hz1 hk1 hSn => ?_)
  replace hP : va_P (dC, dI) clA [(a0, .inr (0, [.ref a1, .ref a2, .ref a3, .ref a4, .ref a5]))] H1 := pu_keep hP hk1
  replace hS := hSn
  clear hSn hPc hDc hFc hk1 hz1 ht9 hvm hB
  refine W.cs (cells' := 0) (slots' := 0) rfl rfl ?_
  subst hw2
  refine lv_if_eq (tgt := 18) hx hb d_NU_transition_8 (by decide) (fun _ => ?_) (fun h => (h (by decide)).elim)
  refine va_forget (fun q hq => hS.2.2 q hq) ?_
  refine W.newc hx hb hown (ht _ wd_3_13) (ht _ wd_3_14) (ht _ wd_1_14) (g := F0 m 18 ls []) rfl d_NU_transition_18 (Nat.le_of_ble_eq_true rfl) (Nat.le_of_ble_eq_true rfl) (fun cX kX hfX hkX _ _ => ?_)
  refine W.eq (g2 := F0 m 21 ls (.ref _ :: [])) rfl ?_
  refine lv_dup hx hb d_NU_transition_21 rfl ?_
  refine W.cs (cells' := 1) (slots' := 6) rfl rfl ?_
  exact tx_throw0 (own := "NetUnfolder") (cls := "java/lang/IllegalArgumentException") (names := ["java/lang/RuntimeException", "java/lang/Exception"]) (ic := 52) hx hb htr hown (by decide +kernel) (by decide +kernel) (fun a ha => own_before (oa_IAE a ha) ht hT) hfX hkX (by simp) hS.1 (by rw [hml]; exact hl.1) d_NU_transition_22 d_NU_transition_25 hout (Nat.le_of_ble_eq_true rfl) (Nat.le_of_ble_eq_true rfl) hlocks (fun U _ h => h)

set_option maxHeartbeats 4000000 in
set_option maxRecDepth 100000 in
theorem t_NU_transition_2 (l : Launch) (hfl : l.flags = flags0) (dC : Nat → ClassId) (dI : Nat → Nat → Nat) (cI cL cZ : ClassId) (sz : Nat) (a0 : Nat) (a1 : Nat) (a2 : Nat) (a3 : Nat) (a4 : Nat) (a5 : Nat) (k0 : Int32) (k1 : Int32) (h1 : ¬ k0 < 1) (h2 : ¬ 255 < k0) (h3 : k1 < 0) : tx_Met l y_NU_transition (Cond.code y_NU_transition prog_1_method_2_code 3 (some .int) :: wsA) { frames := 6, cells := 1, slots := 6, locals := 96 } (va_Pc [.ref a0, .int k0, .int k1] (fun U => U.heap.size = sz ∧ va_P (dC, dI) clA [(a0, .inr (0, [.ref a1, .ref a2, .ref a3, .ref a4, .ref a5]))] U.heap ∧ va_K (dC, dI) clA [(cI, .int), (cL, .long), (cZ, .boolean)] U ∧ va_D (fun _ => True) [(a0, .inr (0, [.ref a1, .ref a2, .ref a3, .ref a4, .ref a5]))] ∧ NwA U ∧ ThA (fun _ => False) U U.heap)) (tx_Q "java/lang/IllegalArgumentException") 1 6 := by
  refine tx_Met.ofW (cc := prog_1_method_2_code) (maxL := 3) (ret := (some .int)) (by decide) rfl ?_
  intro p e s m args below meth c s₁ B hml hv
  obtain ⟨rfl, hsz, hP, hK, hD0, hN, hT⟩ := hv
  have hx := B.exec
  have hb := B.bytes
  have hr := B.returns
  have ht : ∀ w ∈ wsA, w.before _ s = true := fun w h => atoms_spec (ws := (Cond.code y_NU_transition prog_1_method_2_code 3 (some .int) :: wsA)) B.pre w (List.mem_cons_of_mem _ h)
  have hown : s.vm.findClass "NetUnfolder" = some m.cls := findClass_of_methodNamed B.named
  have hlocks := B.notSynchronized
  have hout := B.noHandlers (atoms_spec (ws := (Cond.code y_NU_transition prog_1_method_2_code 3 (some .int) :: wsA)) B.pre _ List.mem_cons_self)
  have htr := Launch.traces_off hfl B.admits
  subst hsz
  have hS : va_S (fun q => s.heap.size ≤ q) s.heap s.heap [] := va_S.rf
  have hA : ∀ q : Nat, s.heap.size ≤ q → (fun q => s.heap.size ≤ q) q := fun q h => h
  have hl := lv_entry ([.ref a0, .int k0, .int k1]) (n := 3) (Nat.le_of_ble_eq_true rfl)
  rw [lg_entry_eq]
  generalize (lg_sl ([.ref a0, .int k0, .int k1]) ++ List.replicate (3 - (lg_sl ([.ref a0, .int k0, .int k1])).length) Slot.unset).toArray = ls at hl ⊢
  replace hl : lv_has ls 3 [(0, .ref a0), (1, .int k0), (2, .int k1)] := hl
  refine lv_iload_n hx hb d_NU_transition_0 rfl (lv_at hl 1 rfl) ?_
  refine lv_if_eq (tgt := 18) hx hb d_NU_transition_1 (by decide) (fun h9 => (by exfalso; have eh1 := fa_nlt (k := 1) (by decide) h1; have eh2 := fb_nlt (k := 255) (by decide) h2; have eh9 := fa_eq (k := 0) (by decide) h9; omega)) (fun _ => ?_)
  refine lv_iload_n hx hb d_NU_transition_4 rfl (lv_at hl 1 rfl) ?_
  have hPc : va_P (dC, dI) clA [] _ := pu_P (H := s.heap)
  have hDc : va_D (fun _ => True) [] := pu_D
  have hFc := pu_free hS hA
  refine va_calli (va_runS (As := [.int k0]) (rest := []) ⟨hx, hb, hml, hown, ht⟩ (c_NU_isMarking_ok l dC dI cI cL cZ _ k0 (ga_nlt (k := 0) (by decide) (by have eh1 := fa_nlt (k := 1) (by decide) h1; have eh2 := fb_nlt (k := 255) (by decide) h2; omega)) h2) (va_cwS 1 ht (good_S wd_3_10 wd_3_11 wd_1_1 wd_3_12) rfl rfl rfl (by decide +kernel) ⟨Nat.le_of_ble_eq_true rfl, Nat.le_of_ble_eq_true rfl⟩) ⟨fun a U g mk q => by obtain ⟨q0, q1, qP, qK, qD, qN⟩ := q; exact ⟨q0, q1, qP, va_K.moved (u := U) (U := U.calling g mk a) (Vm.Alike.refl U.vm) qK, qD, NwA.same (u := U) rfl qN⟩, fun U hU hW => ⟨rfl, by rw [hU], by rw [hU]; exact hPc, va_K.moved hW.alike hK, hDc.weaken (fun _ _ _ _ => trivial), NwA.warm hW hN⟩⟩ rfl rfl hl.1 rfl (lv_room (Nat.le_of_ble_eq_true rfl)) d_NU_transition_5 ⟨Nat.le_of_ble_eq_true rfl, Nat.le_of_ble_eq_true rfl⟩) hS (fun q _ h => hFc q h) hFc (fun r9 u t H1 locs ht9 hvm hw2 hB hz1 hk1 hSn => ?_)
  replace hP : va_P (dC, dI) clA [(a0, .inr (0, [.ref a1, .ref a2, .ref a3, .ref a4, .ref a5]))] H1 := pu_keep hP hk1
  replace hS := hSn
  clear hSn hPc hDc hFc hk1 hz1 ht9 hvm hB
  refine W.cs (cells' := 0) (slots' := 0) rfl rfl ?_
  subst hw2
  refine lv_if_eq (tgt := 18) hx hb d_NU_transition_8 (by decide) (fun h => absurd h (by decide)) (fun _ => ?_)
  refine lv_iload_n hx hb d_NU_transition_11 rfl (lv_at hl 2 rfl) ?_
  have hPc : va_P (dC, dI) clA [] _ := pu_P (H := H1)
  have hDc : va_D (fun _ => True) [] := pu_D
  have hFc := pu_free hS hA
  refine va_calli (va_runS (As := [.int k1]) (rest := []) ⟨hx, hb, hml, hown, ht⟩ (c_NU_isMarking_lo l dC dI cI cL cZ _ k1 h3) (va_cwS 1 ht (good_S wd_3_10 wd_3_11 wd_1_1 wd_3_12) rfl rfl rfl (by decide +kernel) ⟨Nat.le_of_ble_eq_true rfl, Nat.le_of_ble_eq_true rfl⟩) ⟨fun a U g mk q => by obtain ⟨q0, q1, qP, qK, qD, qN⟩ := q; exact ⟨q0, q1, qP, va_K.moved (u := U) (U := U.calling g mk a) (Vm.Alike.refl U.vm) qK, qD, NwA.same (u := U) rfl qN⟩, fun U hU hW => ⟨rfl, by rw [hU], by rw [hU]; exact hPc, va_K.moved hW.alike hK, hDc.weaken (fun _ _ _ _ => trivial), NwA.warm hW hN⟩⟩ rfl rfl hl.1 rfl (lv_room (Nat.le_of_ble_eq_true rfl)) d_NU_transition_12 ⟨Nat.le_of_ble_eq_true rfl, Nat.le_of_ble_eq_true rfl⟩) hS (fun q _ h => hFc q h) hFc (fun r9 u t H3 locs ht9 hvm hw4 hB hz1 hk1 hSn => ?_)
  replace hP : va_P (dC, dI) clA [(a0, .inr (0, [.ref a1, .ref a2, .ref a3, .ref a4, .ref a5]))] H3 := pu_keep hP hk1
  replace hS := hSn
  clear hSn hPc hDc hFc hk1 hz1 ht9 hvm hB
  refine W.cs (cells' := 0) (slots' := 0) rfl rfl ?_
  subst hw4
  refine lv_if_ne (tgt := 26) hx hb d_NU_transition_15 (by decide) (fun h => (h (by decide)).elim) (fun _ => ?_)
  refine va_forget (fun q hq => hS.2.2 q hq) ?_
  refine W.newc hx hb hown (ht _ wd_3_13) (ht _ wd_3_14) (ht _ wd_1_14) (g := F0 m 18 ls []) rfl d_NU_transition_18 (Nat.le_of_ble_eq_true rfl) (Nat.le_of_ble_eq_true rfl) (fun cX kX hfX hkX _ _ => ?_)
  refine W.eq (g2 := F0 m 21 ls (.ref _ :: [])) rfl ?_
  refine lv_dup hx hb d_NU_transition_21 rfl ?_
  refine W.cs (cells' := 1) (slots' := 6) rfl rfl ?_
  exact tx_throw0 (own := "NetUnfolder") (cls := "java/lang/IllegalArgumentException") (names := ["java/lang/RuntimeException", "java/lang/Exception"]) (ic := 52) hx hb htr hown (by decide +kernel) (by decide +kernel) (fun a ha => own_before (oa_IAE a ha) ht hT) hfX hkX (by simp) hS.1 (by rw [hml]; exact hl.1) d_NU_transition_22 d_NU_transition_25 hout (Nat.le_of_ble_eq_true rfl) (Nat.le_of_ble_eq_true rfl) hlocks (fun U _ h => h)

set_option maxHeartbeats 4000000 in
set_option maxRecDepth 100000 in
theorem t_NU_transition_3 (l : Launch) (hfl : l.flags = flags0) (dC : Nat → ClassId) (dI : Nat → Nat → Nat) (cI cL cZ : ClassId) (sz : Nat) (a0 : Nat) (a1 : Nat) (a2 : Nat) (a3 : Nat) (a4 : Nat) (a5 : Nat) (k0 : Int32) (k1 : Int32) (h1 : ¬ k0 < 1) (h2 : ¬ 255 < k0) (h4 : 255 < k1) : tx_Met l y_NU_transition (Cond.code y_NU_transition prog_1_method_2_code 3 (some .int) :: wsA) { frames := 6, cells := 1, slots := 6, locals := 96 } (va_Pc [.ref a0, .int k0, .int k1] (fun U => U.heap.size = sz ∧ va_P (dC, dI) clA [(a0, .inr (0, [.ref a1, .ref a2, .ref a3, .ref a4, .ref a5]))] U.heap ∧ va_K (dC, dI) clA [(cI, .int), (cL, .long), (cZ, .boolean)] U ∧ va_D (fun _ => True) [(a0, .inr (0, [.ref a1, .ref a2, .ref a3, .ref a4, .ref a5]))] ∧ NwA U ∧ ThA (fun _ => False) U U.heap)) (tx_Q "java/lang/IllegalArgumentException") 1 6 := by
  refine tx_Met.ofW (cc := prog_1_method_2_code) (maxL := 3) (ret := (some .int)) (by decide) rfl ?_
  intro p e s m args below meth c s₁ B hml hv
  obtain ⟨rfl, hsz, hP, hK, hD0, hN, hT⟩ := hv
  have hx := B.exec
  have hb := B.bytes
  have hr := B.returns
  have ht : ∀ w ∈ wsA, w.before _ s = true := fun w h => atoms_spec (ws := (Cond.code y_NU_transition prog_1_method_2_code 3 (some .int) :: wsA)) B.pre w (List.mem_cons_of_mem _ h)
  have hown : s.vm.findClass "NetUnfolder" = some m.cls := findClass_of_methodNamed B.named
  have hlocks := B.notSynchronized
  have hout := B.noHandlers (atoms_spec (ws := (Cond.code y_NU_transition prog_1_method_2_code 3 (some .int) :: wsA)) B.pre _ List.mem_cons_self)
  have htr := Launch.traces_off hfl B.admits
  subst hsz
  have hS : va_S (fun q => s.heap.size ≤ q) s.heap s.heap [] := va_S.rf
  have hA : ∀ q : Nat, s.heap.size ≤ q → (fun q => s.heap.size ≤ q) q := fun q h => h
  have hl := lv_entry ([.ref a0, .int k0, .int k1]) (n := 3) (Nat.le_of_ble_eq_true rfl)
  rw [lg_entry_eq]
  generalize (lg_sl ([.ref a0, .int k0, .int k1]) ++ List.replicate (3 - (lg_sl ([.ref a0, .int k0, .int k1])).length) Slot.unset).toArray = ls at hl ⊢
  replace hl : lv_has ls 3 [(0, .ref a0), (1, .int k0), (2, .int k1)] := hl
  refine lv_iload_n hx hb d_NU_transition_0 rfl (lv_at hl 1 rfl) ?_
  refine lv_if_eq (tgt := 18) hx hb d_NU_transition_1 (by decide) (fun h9 => (by exfalso; have eh1 := fa_nlt (k := 1) (by decide) h1; have eh2 := fb_nlt (k := 255) (by decide) h2; have eh9 := fa_eq (k := 0) (by decide) h9; omega)) (fun _ => ?_)
  refine lv_iload_n hx hb d_NU_transition_4 rfl (lv_at hl 1 rfl) ?_
  have hPc : va_P (dC, dI) clA [] _ := pu_P (H := s.heap)
  have hDc : va_D (fun _ => True) [] := pu_D
  have hFc := pu_free hS hA
  refine va_calli (va_runS (As := [.int k0]) (rest := []) ⟨hx, hb, hml, hown, ht⟩ (c_NU_isMarking_ok l dC dI cI cL cZ _ k0 (ga_nlt (k := 0) (by decide) (by have eh1 := fa_nlt (k := 1) (by decide) h1; have eh2 := fb_nlt (k := 255) (by decide) h2; omega)) h2) (va_cwS 1 ht (good_S wd_3_10 wd_3_11 wd_1_1 wd_3_12) rfl rfl rfl (by decide +kernel) ⟨Nat.le_of_ble_eq_true rfl, Nat.le_of_ble_eq_true rfl⟩) ⟨fun a U g mk q => by obtain ⟨q0, q1, qP, qK, qD, qN⟩ := q; exact ⟨q0, q1, qP, va_K.moved (u := U) (U := U.calling g mk a) (Vm.Alike.refl U.vm) qK, qD, NwA.same (u := U) rfl qN⟩, fun U hU hW => ⟨rfl, by rw [hU], by rw [hU]; exact hPc, va_K.moved hW.alike hK, hDc.weaken (fun _ _ _ _ => trivial), NwA.warm hW hN⟩⟩ rfl rfl hl.1 rfl (lv_room (Nat.le_of_ble_eq_true rfl)) d_NU_transition_5 ⟨Nat.le_of_ble_eq_true rfl, Nat.le_of_ble_eq_true rfl⟩) hS (fun q _ h => hFc q h) hFc (fun r9 u t H1 locs ht9 hvm hw2 hB hz1 hk1 hSn => ?_)
  replace hP : va_P (dC, dI) clA [(a0, .inr (0, [.ref a1, .ref a2, .ref a3, .ref a4, .ref a5]))] H1 := pu_keep hP hk1
  replace hS := hSn
  clear hSn hPc hDc hFc hk1 hz1 ht9 hvm hB
  refine W.cs (cells' := 0) (slots' := 0) rfl rfl ?_
  subst hw2
  refine lv_if_eq (tgt := 18) hx hb d_NU_transition_8 (by decide) (fun h => absurd h (by decide)) (fun _ => ?_)
  refine lv_iload_n hx hb d_NU_transition_11 rfl (lv_at hl 2 rfl) ?_
  have hPc : va_P (dC, dI) clA [] _ := pu_P (H := H1)
  have hDc : va_D (fun _ => True) [] := pu_D
  have hFc := pu_free hS hA
  refine va_calli (va_runS (As := [.int k1]) (rest := []) ⟨hx, hb, hml, hown, ht⟩ (c_NU_isMarking_hi l dC dI cI cL cZ _ k1 h4) (va_cwS 1 ht (good_S wd_3_10 wd_3_11 wd_1_1 wd_3_12) rfl rfl rfl (by decide +kernel) ⟨Nat.le_of_ble_eq_true rfl, Nat.le_of_ble_eq_true rfl⟩) ⟨fun a U g mk q => by obtain ⟨q0, q1, qP, qK, qD, qN⟩ := q; exact ⟨q0, q1, qP, va_K.moved (u := U) (U := U.calling g mk a) (Vm.Alike.refl U.vm) qK, qD, NwA.same (u := U) rfl qN⟩, fun U hU hW => ⟨rfl, by rw [hU], by rw [hU]; exact hPc, va_K.moved hW.alike hK, hDc.weaken (fun _ _ _ _ => trivial), NwA.warm hW hN⟩⟩ rfl rfl hl.1 rfl (lv_room (Nat.le_of_ble_eq_true rfl)) d_NU_transition_12 ⟨Nat.le_of_ble_eq_true rfl, Nat.le_of_ble_eq_true rfl⟩) hS (fun q _ h => hFc q h) hFc (fun r9 u t H3 locs ht9 hvm hw4 hB hz1 hk1 hSn => ?_)
  replace hP : va_P (dC, dI) clA [(a0, .inr (0, [.ref a1, .ref a2, .ref a3, .ref a4, .ref a5]))] H3 := pu_keep hP hk1
  replace hS := hSn
  clear hSn hPc hDc hFc hk1 hz1 ht9 hvm hB
  refine W.cs (cells' := 0) (slots' := 0) rfl rfl ?_
  subst hw4
  refine lv_if_ne (tgt := 26) hx hb d_NU_transition_15 (by decide) (fun h => (h (by decide)).elim) (fun _ => ?_)
  refine va_forget (fun q hq => hS.2.2 q hq) ?_
  refine W.newc hx hb hown (ht _ wd_3_13) (ht _ wd_3_14) (ht _ wd_1_14) (g := F0 m 18 ls []) rfl d_NU_transition_18 (Nat.le_of_ble_eq_true rfl) (Nat.le_of_ble_eq_true rfl) (fun cX kX hfX hkX _ _ => ?_)
  refine W.eq (g2 := F0 m 21 ls (.ref _ :: [])) rfl ?_
  refine lv_dup hx hb d_NU_transition_21 rfl ?_
  refine W.cs (cells' := 1) (slots' := 6) rfl rfl ?_
  exact tx_throw0 (own := "NetUnfolder") (cls := "java/lang/IllegalArgumentException") (names := ["java/lang/RuntimeException", "java/lang/Exception"]) (ic := 52) hx hb htr hown (by decide +kernel) (by decide +kernel) (fun a ha => own_before (oa_IAE a ha) ht hT) hfX hkX (by simp) hS.1 (by rw [hml]; exact hl.1) d_NU_transition_22 d_NU_transition_25 hout (Nat.le_of_ble_eq_true rfl) (Nat.le_of_ble_eq_true rfl) hlocks (fun U _ h => h)

set_option maxHeartbeats 4000000 in
set_option maxRecDepth 100000 in
theorem t_NU_first_0 (l : Launch) (hfl : l.flags = flags0) (dC : Nat → ClassId) (dI : Nat → Nat → Nat) (cI cL cZ : ClassId) (sz : Nat) (a0 : Nat) (a1 : Nat) (a2 : Nat) (a3 : Nat) (a4 : Nat) (a5 : Nat) (k0 : Int32) (h1 : k0 < 0) : tx_Met l y_NU_first (Cond.code y_NU_first prog_1_method_3_code 2 none :: wsA) { frames := 6, cells := 1, slots := 6, locals := 96 } (va_Pc [.ref a0, .int k0] (fun U => U.heap.size = sz ∧ va_P (dC, dI) clA [(a0, .inr (0, [.ref a1, .ref a2, .ref a3, .ref a4, .ref a5]))] U.heap ∧ va_K (dC, dI) clA [(cI, .int), (cL, .long), (cZ, .boolean)] U ∧ va_D (fun _ => True) [(a0, .inr (0, [.ref a1, .ref a2, .ref a3, .ref a4, .ref a5]))] ∧ NwA U ∧ ThA (fun _ => False) U U.heap)) (tx_Q "java/lang/IllegalArgumentException") 1 6 := by
  refine tx_Met.ofW (cc := prog_1_method_3_code) (maxL := 2) (ret := none) (by decide) rfl ?_
  intro p e s m args below meth c s₁ B hml hv
  obtain ⟨rfl, hsz, hP, hK, hD0, hN, hT⟩ := hv
  have hx := B.exec
  have hb := B.bytes
  have hr := B.returns
  have ht : ∀ w ∈ wsA, w.before _ s = true := fun w h => atoms_spec (ws := (Cond.code y_NU_first prog_1_method_3_code 2 none :: wsA)) B.pre w (List.mem_cons_of_mem _ h)
  have hown : s.vm.findClass "NetUnfolder" = some m.cls := findClass_of_methodNamed B.named
  have hlocks := B.notSynchronized
  have hout := B.noHandlers (atoms_spec (ws := (Cond.code y_NU_first prog_1_method_3_code 2 none :: wsA)) B.pre _ List.mem_cons_self)
  have htr := Launch.traces_off hfl B.admits
  subst hsz
  have hS : va_S (fun q => s.heap.size ≤ q) s.heap s.heap [] := va_S.rf
  have hA : ∀ q : Nat, s.heap.size ≤ q → (fun q => s.heap.size ≤ q) q := fun q h => h
  have hl := lv_entry ([.ref a0, .int k0]) (n := 2) (Nat.le_of_ble_eq_true rfl)
  rw [lg_entry_eq]
  generalize (lg_sl ([.ref a0, .int k0]) ++ List.replicate (2 - (lg_sl ([.ref a0, .int k0])).length) Slot.unset).toArray = ls at hl ⊢
  replace hl : lv_has ls 2 [(0, .ref a0), (1, .int k0)] := hl
  refine lv_iload_n hx hb d_NU_first_0 rfl (lv_at hl 1 rfl) ?_
  have hPc : va_P (dC, dI) clA [] _ := pu_P (H := s.heap)
  have hDc : va_D (fun _ => True) [] := pu_D
  have hFc := pu_free hS hA
  refine va_calli (va_runS (As := [.int k0]) (rest := []) ⟨hx, hb, hml, hown, ht⟩ (c_NU_isMarking_lo l dC dI cI cL cZ _ k0 h1) (va_cwS 1 ht (good_S wd_3_10 wd_3_11 wd_1_1 wd_3_12) rfl rfl rfl (by decide +kernel) ⟨Nat.le_of_ble_eq_true rfl, Nat.le_of_ble_eq_true rfl⟩) ⟨fun a U g mk q => by obtain ⟨q0, q1, qP, qK, qD, qN⟩ := q; exact ⟨q0, q1, qP, va_K.moved (u := U) (U := U.calling g mk a) (Vm.Alike.refl U.vm) qK, qD, NwA.same (u := U) rfl qN⟩, fun U hU hW => ⟨rfl, by rw [hU], by rw [hU]; exact hPc, va_K.moved hW.alike hK, hDc.weaken (fun _ _ _ _ => trivial), NwA.warm hW hN⟩⟩ rfl rfl hl.1 rfl (lv_room (Nat.le_of_ble_eq_true rfl)) d_NU_first_1 ⟨Nat.le_of_ble_eq_true rfl, Nat.le_of_ble_eq_true rfl⟩) hS (fun q _ h => hFc q h) hFc (fun r9 u t H1 locs ht9 hvm hw2 hB hz1 hk1 hSn => ?_)
  replace hP : va_P (dC, dI) clA [(a0, .inr (0, [.ref a1, .ref a2, .ref a3, .ref a4, .ref a5]))] H1 := pu_keep hP hk1
  replace hS := hSn
  clear hSn hPc hDc hFc hk1 hz1 ht9 hvm hB
  refine W.cs (cells' := 0) (slots' := 0) rfl rfl ?_
  subst hw2
  refine lv_if_ne (tgt := 15) hx hb d_NU_first_4 (by decide) (fun h => (h (by decide)).elim) (fun _ => ?_)
  refine va_forget (fun q hq => hS.2.2 q hq) ?_
  refine W.newc hx hb hown (ht _ wd_3_13) (ht _ wd_3_14) (ht _ wd_1_14) (g := F0 m 7 ls []) rfl d_NU_first_7 (Nat.le_of_ble_eq_true rfl) (Nat.le_of_ble_eq_true rfl) (fun cX kX hfX hkX _ _ => ?_)
  refine W.eq (g2 := F0 m 10 ls (.ref _ :: [])) rfl ?_
  refine lv_dup hx hb d_NU_first_10 rfl ?_
  refine W.cs (cells' := 1) (slots' := 6) rfl rfl ?_
  exact tx_throw0 (own := "NetUnfolder") (cls := "java/lang/IllegalArgumentException") (names := ["java/lang/RuntimeException", "java/lang/Exception"]) (ic := 52) hx hb htr hown (by decide +kernel) (by decide +kernel) (fun a ha => own_before (oa_IAE a ha) ht hT) hfX hkX (by simp) hS.1 (by rw [hml]; exact hl.1) d_NU_first_11 d_NU_first_14 hout (Nat.le_of_ble_eq_true rfl) (Nat.le_of_ble_eq_true rfl) hlocks (fun U _ h => h)

set_option maxHeartbeats 4000000 in
set_option maxRecDepth 100000 in
theorem t_NU_first_1 (l : Launch) (hfl : l.flags = flags0) (dC : Nat → ClassId) (dI : Nat → Nat → Nat) (cI cL cZ : ClassId) (sz : Nat) (a0 : Nat) (a1 : Nat) (a2 : Nat) (a3 : Nat) (a4 : Nat) (a5 : Nat) (k0 : Int32) (h2 : 255 < k0) : tx_Met l y_NU_first (Cond.code y_NU_first prog_1_method_3_code 2 none :: wsA) { frames := 6, cells := 1, slots := 6, locals := 96 } (va_Pc [.ref a0, .int k0] (fun U => U.heap.size = sz ∧ va_P (dC, dI) clA [(a0, .inr (0, [.ref a1, .ref a2, .ref a3, .ref a4, .ref a5]))] U.heap ∧ va_K (dC, dI) clA [(cI, .int), (cL, .long), (cZ, .boolean)] U ∧ va_D (fun _ => True) [(a0, .inr (0, [.ref a1, .ref a2, .ref a3, .ref a4, .ref a5]))] ∧ NwA U ∧ ThA (fun _ => False) U U.heap)) (tx_Q "java/lang/IllegalArgumentException") 1 6 := by
  refine tx_Met.ofW (cc := prog_1_method_3_code) (maxL := 2) (ret := none) (by decide) rfl ?_
  intro p e s m args below meth c s₁ B hml hv
  obtain ⟨rfl, hsz, hP, hK, hD0, hN, hT⟩ := hv
  have hx := B.exec
  have hb := B.bytes
  have hr := B.returns
  have ht : ∀ w ∈ wsA, w.before _ s = true := fun w h => atoms_spec (ws := (Cond.code y_NU_first prog_1_method_3_code 2 none :: wsA)) B.pre w (List.mem_cons_of_mem _ h)
  have hown : s.vm.findClass "NetUnfolder" = some m.cls := findClass_of_methodNamed B.named
  have hlocks := B.notSynchronized
  have hout := B.noHandlers (atoms_spec (ws := (Cond.code y_NU_first prog_1_method_3_code 2 none :: wsA)) B.pre _ List.mem_cons_self)
  have htr := Launch.traces_off hfl B.admits
  subst hsz
  have hS : va_S (fun q => s.heap.size ≤ q) s.heap s.heap [] := va_S.rf
  have hA : ∀ q : Nat, s.heap.size ≤ q → (fun q => s.heap.size ≤ q) q := fun q h => h
  have hl := lv_entry ([.ref a0, .int k0]) (n := 2) (Nat.le_of_ble_eq_true rfl)
  rw [lg_entry_eq]
  generalize (lg_sl ([.ref a0, .int k0]) ++ List.replicate (2 - (lg_sl ([.ref a0, .int k0])).length) Slot.unset).toArray = ls at hl ⊢
  replace hl : lv_has ls 2 [(0, .ref a0), (1, .int k0)] := hl
  refine lv_iload_n hx hb d_NU_first_0 rfl (lv_at hl 1 rfl) ?_
  have hPc : va_P (dC, dI) clA [] _ := pu_P (H := s.heap)
  have hDc : va_D (fun _ => True) [] := pu_D
  have hFc := pu_free hS hA
  refine va_calli (va_runS (As := [.int k0]) (rest := []) ⟨hx, hb, hml, hown, ht⟩ (c_NU_isMarking_hi l dC dI cI cL cZ _ k0 h2) (va_cwS 1 ht (good_S wd_3_10 wd_3_11 wd_1_1 wd_3_12) rfl rfl rfl (by decide +kernel) ⟨Nat.le_of_ble_eq_true rfl, Nat.le_of_ble_eq_true rfl⟩) ⟨fun a U g mk q => by obtain ⟨q0, q1, qP, qK, qD, qN⟩ := q; exact ⟨q0, q1, qP, va_K.moved (u := U) (U := U.calling g mk a) (Vm.Alike.refl U.vm) qK, qD, NwA.same (u := U) rfl qN⟩, fun U hU hW => ⟨rfl, by rw [hU], by rw [hU]; exact hPc, va_K.moved hW.alike hK, hDc.weaken (fun _ _ _ _ => trivial), NwA.warm hW hN⟩⟩ rfl rfl hl.1 rfl (lv_room (Nat.le_of_ble_eq_true rfl)) d_NU_first_1 ⟨Nat.le_of_ble_eq_true rfl, Nat.le_of_ble_eq_true rfl⟩) hS (fun q _ h => hFc q h) hFc (fun r9 u t H1 locs ht9 hvm hw2 hB hz1 hk1 hSn => ?_)
  replace hP : va_P (dC, dI) clA [(a0, .inr (0, [.ref a1, .ref a2, .ref a3, .ref a4, .ref a5]))] H1 := pu_keep hP hk1
  replace hS := hSn
  clear hSn hPc hDc hFc hk1 hz1 ht9 hvm hB
  refine W.cs (cells' := 0) (slots' := 0) rfl rfl ?_
  subst hw2
  refine lv_if_ne (tgt := 15) hx hb d_NU_first_4 (by decide) (fun h => (h (by decide)).elim) (fun _ => ?_)
  refine va_forget (fun q hq => hS.2.2 q hq) ?_
  refine W.newc hx hb hown (ht _ wd_3_13) (ht _ wd_3_14) (ht _ wd_1_14) (g := F0 m 7 ls []) rfl d_NU_first_7 (Nat.le_of_ble_eq_true rfl) (Nat.le_of_ble_eq_true rfl) (fun cX kX hfX hkX _ _ => ?_)
  refine W.eq (g2 := F0 m 10 ls (.ref _ :: [])) rfl ?_
  refine lv_dup hx hb d_NU_first_10 rfl ?_
  refine W.cs (cells' := 1) (slots' := 6) rfl rfl ?_
  exact tx_throw0 (own := "NetUnfolder") (cls := "java/lang/IllegalArgumentException") (names := ["java/lang/RuntimeException", "java/lang/Exception"]) (ic := 52) hx hb htr hown (by decide +kernel) (by decide +kernel) (fun a ha => own_before (oa_IAE a ha) ht hT) hfX hkX (by simp) hS.1 (by rw [hml]; exact hl.1) d_NU_first_11 d_NU_first_14 hout (Nat.le_of_ble_eq_true rfl) (Nat.le_of_ble_eq_true rfl) hlocks (fun U _ h => h)

set_option maxHeartbeats 4000000 in
set_option maxRecDepth 100000 in
theorem t_NU_reach_0 (l : Launch) (hfl : l.flags = flags0) (dC : Nat → ClassId) (dI : Nat → Nat → Nat) (cI cL cZ : ClassId) (sz : Nat) (a0 : Nat) (a1 : Nat) (a2 : Nat) (a3 : Nat) (a4 : Nat) (a5 : Nat) (k0 : Int32) (h1 : k0 < 0) : tx_Met l y_NU_reach (Cond.code y_NU_reach prog_1_method_6_code 2 (some .int) :: wsA) { frames := 6, cells := 1, slots := 6, locals := 96 } (va_Pc [.ref a0, .int k0] (fun U => U.heap.size = sz ∧ va_P (dC, dI) clA [(a0, .inr (0, [.ref a1, .ref a2, .ref a3, .ref a4, .ref a5]))] U.heap ∧ va_K (dC, dI) clA [(cI, .int), (cL, .long), (cZ, .boolean)] U ∧ va_D (fun _ => True) [(a0, .inr (0, [.ref a1, .ref a2, .ref a3, .ref a4, .ref a5]))] ∧ NwA U ∧ ThA (fun _ => False) U U.heap)) (tx_Q "java/lang/IllegalArgumentException") 1 6 := by
  refine tx_Met.ofW (cc := prog_1_method_6_code) (maxL := 2) (ret := (some .int)) (by decide) rfl ?_
  intro p e s m args below meth c s₁ B hml hv
  obtain ⟨rfl, hsz, hP, hK, hD0, hN, hT⟩ := hv
  have hx := B.exec
  have hb := B.bytes
  have hr := B.returns
  have ht : ∀ w ∈ wsA, w.before _ s = true := fun w h => atoms_spec (ws := (Cond.code y_NU_reach prog_1_method_6_code 2 (some .int) :: wsA)) B.pre w (List.mem_cons_of_mem _ h)
  have hown : s.vm.findClass "NetUnfolder" = some m.cls := findClass_of_methodNamed B.named
  have hlocks := B.notSynchronized
  have hout := B.noHandlers (atoms_spec (ws := (Cond.code y_NU_reach prog_1_method_6_code 2 (some .int) :: wsA)) B.pre _ List.mem_cons_self)
  have htr := Launch.traces_off hfl B.admits
  subst hsz
  have hS : va_S (fun q => s.heap.size ≤ q) s.heap s.heap [] := va_S.rf
  have hA : ∀ q : Nat, s.heap.size ≤ q → (fun q => s.heap.size ≤ q) q := fun q h => h
  have hl := lv_entry ([.ref a0, .int k0]) (n := 2) (Nat.le_of_ble_eq_true rfl)
  rw [lg_entry_eq]
  generalize (lg_sl ([.ref a0, .int k0]) ++ List.replicate (2 - (lg_sl ([.ref a0, .int k0])).length) Slot.unset).toArray = ls at hl ⊢
  replace hl : lv_has ls 2 [(0, .ref a0), (1, .int k0)] := hl
  refine lv_iload_n hx hb d_NU_reach_0 rfl (lv_at hl 1 rfl) ?_
  have hPc : va_P (dC, dI) clA [] _ := pu_P (H := s.heap)
  have hDc : va_D (fun _ => True) [] := pu_D
  have hFc := pu_free hS hA
  refine va_calli (va_runS (As := [.int k0]) (rest := []) ⟨hx, hb, hml, hown, ht⟩ (c_NU_isMarking_lo l dC dI cI cL cZ _ k0 h1) (va_cwS 1 ht (good_S wd_3_10 wd_3_11 wd_1_1 wd_3_12) rfl rfl rfl (by decide +kernel) ⟨Nat.le_of_ble_eq_true rfl, Nat.le_of_ble_eq_true rfl⟩) ⟨fun a U g mk q => by obtain ⟨q0, q1, qP, qK, qD, qN⟩ := q; exact ⟨q0, q1, qP, va_K.moved (u := U) (U := U.calling g mk a) (Vm.Alike.refl U.vm) qK, qD, NwA.same (u := U) rfl qN⟩, fun U hU hW => ⟨rfl, by rw [hU], by rw [hU]; exact hPc, va_K.moved hW.alike hK, hDc.weaken (fun _ _ _ _ => trivial), NwA.warm hW hN⟩⟩ rfl rfl hl.1 rfl (lv_room (Nat.le_of_ble_eq_true rfl)) d_NU_reach_1 ⟨Nat.le_of_ble_eq_true rfl, Nat.le_of_ble_eq_true rfl⟩) hS (fun q _ h => hFc q h) hFc (fun r9 u t H1 locs ht9 hvm hw2 hB hz1 hk1 hSn => ?_)
  replace hP : va_P (dC, dI) clA [(a0, .inr (0, [.ref a1, .ref a2, .ref a3, .ref a4, .ref a5]))] H1 := pu_keep hP hk1
  replace hS := hSn
  clear hSn hPc hDc hFc hk1 hz1 ht9 hvm hB
  refine W.cs (cells' := 0) (slots' := 0) rfl rfl ?_
  subst hw2
  refine lv_if_ne (tgt := 15) hx hb d_NU_reach_4 (by decide) (fun h => (h (by decide)).elim) (fun _ => ?_)
  refine va_forget (fun q hq => hS.2.2 q hq) ?_
  refine W.newc hx hb hown (ht _ wd_3_13) (ht _ wd_3_14) (ht _ wd_1_14) (g := F0 m 7 ls []) rfl d_NU_reach_7 (Nat.le_of_ble_eq_true rfl) (Nat.le_of_ble_eq_true rfl) (fun cX kX hfX hkX _ _ => ?_)
  refine W.eq (g2 := F0 m 10 ls (.ref _ :: [])) rfl ?_
  refine lv_dup hx hb d_NU_reach_10 rfl ?_
  refine W.cs (cells' := 1) (slots' := 6) rfl rfl ?_
  exact tx_throw0 (own := "NetUnfolder") (cls := "java/lang/IllegalArgumentException") (names := ["java/lang/RuntimeException", "java/lang/Exception"]) (ic := 52) hx hb htr hown (by decide +kernel) (by decide +kernel) (fun a ha => own_before (oa_IAE a ha) ht hT) hfX hkX (by simp) hS.1 (by rw [hml]; exact hl.1) d_NU_reach_11 d_NU_reach_14 hout (Nat.le_of_ble_eq_true rfl) (Nat.le_of_ble_eq_true rfl) hlocks (fun U _ h => h)

set_option maxHeartbeats 4000000 in
set_option maxRecDepth 100000 in
theorem t_NU_reach_1 (l : Launch) (hfl : l.flags = flags0) (dC : Nat → ClassId) (dI : Nat → Nat → Nat) (cI cL cZ : ClassId) (sz : Nat) (a0 : Nat) (a1 : Nat) (a2 : Nat) (a3 : Nat) (a4 : Nat) (a5 : Nat) (k0 : Int32) (h2 : 255 < k0) : tx_Met l y_NU_reach (Cond.code y_NU_reach prog_1_method_6_code 2 (some .int) :: wsA) { frames := 6, cells := 1, slots := 6, locals := 96 } (va_Pc [.ref a0, .int k0] (fun U => U.heap.size = sz ∧ va_P (dC, dI) clA [(a0, .inr (0, [.ref a1, .ref a2, .ref a3, .ref a4, .ref a5]))] U.heap ∧ va_K (dC, dI) clA [(cI, .int), (cL, .long), (cZ, .boolean)] U ∧ va_D (fun _ => True) [(a0, .inr (0, [.ref a1, .ref a2, .ref a3, .ref a4, .ref a5]))] ∧ NwA U ∧ ThA (fun _ => False) U U.heap)) (tx_Q "java/lang/IllegalArgumentException") 1 6 := by
  refine tx_Met.ofW (cc := prog_1_method_6_code) (maxL := 2) (ret := (some .int)) (by decide) rfl ?_
  intro p e s m args below meth c s₁ B hml hv
  obtain ⟨rfl, hsz, hP, hK, hD0, hN, hT⟩ := hv
  have hx := B.exec
  have hb := B.bytes
  have hr := B.returns
  have ht : ∀ w ∈ wsA, w.before _ s = true := fun w h => atoms_spec (ws := (Cond.code y_NU_reach prog_1_method_6_code 2 (some .int) :: wsA)) B.pre w (List.mem_cons_of_mem _ h)
  have hown : s.vm.findClass "NetUnfolder" = some m.cls := findClass_of_methodNamed B.named
  have hlocks := B.notSynchronized
  have hout := B.noHandlers (atoms_spec (ws := (Cond.code y_NU_reach prog_1_method_6_code 2 (some .int) :: wsA)) B.pre _ List.mem_cons_self)
  have htr := Launch.traces_off hfl B.admits
  subst hsz
  have hS : va_S (fun q => s.heap.size ≤ q) s.heap s.heap [] := va_S.rf
  have hA : ∀ q : Nat, s.heap.size ≤ q → (fun q => s.heap.size ≤ q) q := fun q h => h
  have hl := lv_entry ([.ref a0, .int k0]) (n := 2) (Nat.le_of_ble_eq_true rfl)
  rw [lg_entry_eq]
  generalize (lg_sl ([.ref a0, .int k0]) ++ List.replicate (2 - (lg_sl ([.ref a0, .int k0])).length) Slot.unset).toArray = ls at hl ⊢
  replace hl : lv_has ls 2 [(0, .ref a0), (1, .int k0)] := hl
  refine lv_iload_n hx hb d_NU_reach_0 rfl (lv_at hl 1 rfl) ?_
  have hPc : va_P (dC, dI) clA [] _ := pu_P (H := s.heap)
  have hDc : va_D (fun _ => True) [] := pu_D
  have hFc := pu_free hS hA
  refine va_calli (va_runS (As := [.int k0]) (rest := []) ⟨hx, hb, hml, hown, ht⟩ (c_NU_isMarking_hi l dC dI cI cL cZ _ k0 h2) (va_cwS 1 ht (good_S wd_3_10 wd_3_11 wd_1_1 wd_3_12) rfl rfl rfl (by decide +kernel) ⟨Nat.le_of_ble_eq_true rfl, Nat.le_of_ble_eq_true rfl⟩) ⟨fun a U g mk q => by obtain ⟨q0, q1, qP, qK, qD, qN⟩ := q; exact ⟨q0, q1, qP, va_K.moved (u := U) (U := U.calling g mk a) (Vm.Alike.refl U.vm) qK, qD, NwA.same (u := U) rfl qN⟩, fun U hU hW => ⟨rfl, by rw [hU], by rw [hU]; exact hPc, va_K.moved hW.alike hK, hDc.weaken (fun _ _ _ _ => trivial), NwA.warm hW hN⟩⟩ rfl rfl hl.1 rfl (lv_room (Nat.le_of_ble_eq_true rfl)) d_NU_reach_1 ⟨Nat.le_of_ble_eq_true rfl, Nat.le_of_ble_eq_true rfl⟩) hS (fun q _ h => hFc q h) hFc (fun r9 u t H1 locs ht9 hvm hw2 hB hz1 hk1 hSn => ?_)
  replace hP : va_P (dC, dI) clA [(a0, .inr (0, [.ref a1, .ref a2, .ref a3, .ref a4, .ref a5]))] H1 := pu_keep hP hk1
  replace hS := hSn
  clear hSn hPc hDc hFc hk1 hz1 ht9 hvm hB
  refine W.cs (cells' := 0) (slots' := 0) rfl rfl ?_
  subst hw2
  refine lv_if_ne (tgt := 15) hx hb d_NU_reach_4 (by decide) (fun h => (h (by decide)).elim) (fun _ => ?_)
  refine va_forget (fun q hq => hS.2.2 q hq) ?_
  refine W.newc hx hb hown (ht _ wd_3_13) (ht _ wd_3_14) (ht _ wd_1_14) (g := F0 m 7 ls []) rfl d_NU_reach_7 (Nat.le_of_ble_eq_true rfl) (Nat.le_of_ble_eq_true rfl) (fun cX kX hfX hkX _ _ => ?_)
  refine W.eq (g2 := F0 m 10 ls (.ref _ :: [])) rfl ?_
  refine lv_dup hx hb d_NU_reach_10 rfl ?_
  refine W.cs (cells' := 1) (slots' := 6) rfl rfl ?_
  exact tx_throw0 (own := "NetUnfolder") (cls := "java/lang/IllegalArgumentException") (names := ["java/lang/RuntimeException", "java/lang/Exception"]) (ic := 52) hx hb htr hown (by decide +kernel) (by decide +kernel) (fun a ha => own_before (oa_IAE a ha) ht hT) hfX hkX (by simp) hS.1 (by rw [hml]; exact hl.1) d_NU_reach_11 d_NU_reach_14 hout (Nat.le_of_ble_eq_true rfl) (Nat.le_of_ble_eq_true rfl) hlocks (fun U _ h => h)

set_option maxHeartbeats 4000000 in
set_option maxRecDepth 100000 in
theorem t_NU_reach_2 (l : Launch) (hfl : l.flags = flags0) (dC : Nat → ClassId) (dI : Nat → Nat → Nat) (cI cL cZ : ClassId) (sz : Nat) (a0 : Nat) (a2 : Nat) (a1 : Nat) (a3 : Nat) (a4 : Nat) (a5 : Nat) (a8 : Nat) (a9 : Nat) (a10 : Nat) (a11 : Nat) (a12 : Nat) (a13 : Nat) (a14 : Nat) (a15 : Nat) (a16 : Nat) (a17 : Nat) (k0 : Int32) (h1 : ¬ k0 < 0) (h2 : ¬ 255 < k0) : tx_Met l y_NU_reach (Cond.code y_NU_reach prog_1_method_6_code 2 (some .int) :: wsA) { frames := 6, cells := 1, slots := 6, locals := 96 } (va_Pc [.ref a0, .int k0] (fun U => U.heap.size = sz ∧ va_P (dC, dI) clA [(a0, .inr (0, [.ref a1, .ref a2, .ref a3, .ref a4, .ref a5])), (a2, .inr (2, [.int 0, .ref a8, .ref a9, .ref a10, .ref a11, .ref a12, .int 0, .ref a13, .ref a14, .ref a15, .ref a16, .ref a17, .int 0, .int 0]))] U.heap ∧ va_K (dC, dI) clA [(cI, .int), (cL, .long), (cZ, .boolean)] U ∧ va_D (fun _ => True) [(a0, .inr (0, [.ref a1, .ref a2, .ref a3, .ref a4, .ref a5])), (a2, .inr (2, [.int 0, .ref a8, .ref a9, .ref a10, .ref a11, .ref a12, .int 0, .ref a13, .ref a14, .ref a15, .ref a16, .ref a17, .int 0, .int 0]))] ∧ NwA U ∧ ThA (fun _ => False) U U.heap)) (tx_Q "java/lang/IllegalStateException") 1 6 := by
  refine tx_Met.ofW (cc := prog_1_method_6_code) (maxL := 2) (ret := (some .int)) (by decide) rfl ?_
  intro p e s m args below meth c s₁ B hml hv
  obtain ⟨rfl, hsz, hP, hK, hD0, hN, hT⟩ := hv
  have hx := B.exec
  have hb := B.bytes
  have hr := B.returns
  have ht : ∀ w ∈ wsA, w.before _ s = true := fun w h => atoms_spec (ws := (Cond.code y_NU_reach prog_1_method_6_code 2 (some .int) :: wsA)) B.pre w (List.mem_cons_of_mem _ h)
  have hown : s.vm.findClass "NetUnfolder" = some m.cls := findClass_of_methodNamed B.named
  have hlocks := B.notSynchronized
  have hout := B.noHandlers (atoms_spec (ws := (Cond.code y_NU_reach prog_1_method_6_code 2 (some .int) :: wsA)) B.pre _ List.mem_cons_self)
  have htr := Launch.traces_off hfl B.admits
  subst hsz
  have hS : va_S (fun q => s.heap.size ≤ q) s.heap s.heap [] := va_S.rf
  have hA : ∀ q : Nat, s.heap.size ≤ q → (fun q => s.heap.size ≤ q) q := fun q h => h
  have hl := lv_entry ([.ref a0, .int k0]) (n := 2) (Nat.le_of_ble_eq_true rfl)
  rw [lg_entry_eq]
  generalize (lg_sl ([.ref a0, .int k0]) ++ List.replicate (2 - (lg_sl ([.ref a0, .int k0])).length) Slot.unset).toArray = ls at hl ⊢
  replace hl : lv_has ls 2 [(0, .ref a0), (1, .int k0)] := hl
  refine lv_iload_n hx hb d_NU_reach_0 rfl (lv_at hl 1 rfl) ?_
  have hPc : va_P (dC, dI) clA [] _ := pu_P (H := s.heap)
  have hDc : va_D (fun _ => True) [] := pu_D
  have hFc := pu_free hS hA
  refine va_calli (va_runS (As := [.int k0]) (rest := []) ⟨hx, hb, hml, hown, ht⟩ (c_NU_isMarking_ok l dC dI cI cL cZ _ k0 h1 h2) (va_cwS 1 ht (good_S wd_3_10 wd_3_11 wd_1_1 wd_3_12) rfl rfl rfl (by decide +kernel) ⟨Nat.le_of_ble_eq_true rfl, Nat.le_of_ble_eq_true rfl⟩) ⟨fun a U g mk q => by obtain ⟨q0, q1, qP, qK, qD, qN⟩ := q; exact ⟨q0, q1, qP, va_K.moved (u := U) (U := U.calling g mk a) (Vm.Alike.refl U.vm) qK, qD, NwA.same (u := U) rfl qN⟩, fun U hU hW => ⟨rfl, by rw [hU], by rw [hU]; exact hPc, va_K.moved hW.alike hK, hDc.weaken (fun _ _ _ _ => trivial), NwA.warm hW hN⟩⟩ rfl rfl hl.1 rfl (lv_room (Nat.le_of_ble_eq_true rfl)) d_NU_reach_1 ⟨Nat.le_of_ble_eq_true rfl, Nat.le_of_ble_eq_true rfl⟩) hS (fun q _ h => hFc q h) hFc (fun r9 u t H1 locs ht9 hvm hw2 hB hz1 hk1 hSn => ?_)
  replace hP : va_P (dC, dI) clA [(a0, .inr (0, [.ref a1, .ref a2, .ref a3, .ref a4, .ref a5])), (a2, .inr (2, [.int 0, .ref a8, .ref a9, .ref a10, .ref a11, .ref a12, .int 0, .ref a13, .ref a14, .ref a15, .ref a16, .ref a17, .int 0, .int 0]))] H1 := pu_keep hP hk1
  replace hS := hSn
  clear hSn hPc hDc hFc hk1 hz1 ht9 hvm hB
  refine W.cs (cells' := 0) (slots' := 0) rfl rfl ?_
  subst hw2
  refine lv_if_ne (tgt := 15) hx hb d_NU_reach_4 (by decide) (fun _ => ?_) (fun h => absurd h (by decide))
  refine lv_aload_n hx hb d_NU_reach_15 rfl (lv_at hl 0 rfl) ?_
  refine va_get (D := (dC, dI)) (ci := 0) (v := .ref a2) (C := "NetUnfolder") (T := T_NU) (N := 5) hx hb ht in_NU hown hK hP 0 rfl rfl 1 (by decide) (ht _ wd_2_37) (fun _ h9 => h9) rfl d_NU_reach_16 ?_
  refine va_get (D := (dC, dI)) (ci := 2) (v := .int 0) (C := "NetUnfolder$Prefix") (T := T_Pf) (N := 14) hx hb ht in_Pf hown hK hP 1 rfl rfl 13 (by decide) (ht _ wd_1_106) (fun _ h9 => h9) rfl d_NU_reach_19 ?_
  refine lv_if_ne (tgt := 33) hx hb d_NU_reach_22 (by decide) (fun h => (h (by decide)).elim) (fun _ => ?_)
  refine va_forget (fun q hq => hS.2.2 q hq) ?_
  refine W.newc hx hb hown (ht _ wd_3_75) (ht _ wd_3_76) (ht _ wd_1_15) (g := F0 m 25 ls []) rfl d_NU_reach_25 (Nat.le_of_ble_eq_true rfl) (Nat.le_of_ble_eq_true rfl) (fun cX kX hfX hkX _ _ => ?_)
  refine W.eq (g2 := F0 m 28 ls (.ref _ :: [])) rfl ?_
  refine lv_dup hx hb d_NU_reach_28 rfl ?_
  refine W.cs (cells' := 1) (slots' := 6) rfl rfl ?_
  exact tx_throw0 (own := "NetUnfolder") (cls := "java/lang/IllegalStateException") (names := ["java/lang/RuntimeException", "java/lang/Exception"]) (ic := 59) hx hb htr hown (by decide +kernel) (by decide +kernel) (fun a ha => own_before (oa_ISE a ha) ht hT) hfX hkX (by simp) hS.1 (by rw [hml]; exact hl.1) d_NU_reach_29 d_NU_reach_32 hout (Nat.le_of_ble_eq_true rfl) (Nat.le_of_ble_eq_true rfl) hlocks (fun U _ h => h)

set_option maxHeartbeats 4000000 in
set_option maxRecDepth 100000 in
theorem t_NU_deadlock (l : Launch) (hfl : l.flags = flags0) (dC : Nat → ClassId) (dI : Nat → Nat → Nat) (cI cL cZ : ClassId) (sz : Nat) (a0 : Nat) (a2 : Nat) (a1 : Nat) (a3 : Nat) (a4 : Nat) (a5 : Nat) (a8 : Nat) (a9 : Nat) (a10 : Nat) (a11 : Nat) (a12 : Nat) (a13 : Nat) (a14 : Nat) (a15 : Nat) (a16 : Nat) (a17 : Nat) : tx_Met l y_NU_deadlock (Cond.code y_NU_deadlock prog_1_method_7_code 1 (some .int) :: wsA) { frames := 6, cells := 1, slots := 6, locals := 96 } (va_Pc [.ref a0] (fun U => U.heap.size = sz ∧ va_P (dC, dI) clA [(a0, .inr (0, [.ref a1, .ref a2, .ref a3, .ref a4, .ref a5])), (a2, .inr (2, [.int 0, .ref a8, .ref a9, .ref a10, .ref a11, .ref a12, .int 0, .ref a13, .ref a14, .ref a15, .ref a16, .ref a17, .int 0, .int 0]))] U.heap ∧ va_K (dC, dI) clA [(cI, .int), (cL, .long), (cZ, .boolean)] U ∧ va_D (fun _ => True) [(a0, .inr (0, [.ref a1, .ref a2, .ref a3, .ref a4, .ref a5])), (a2, .inr (2, [.int 0, .ref a8, .ref a9, .ref a10, .ref a11, .ref a12, .int 0, .ref a13, .ref a14, .ref a15, .ref a16, .ref a17, .int 0, .int 0]))] ∧ NwA U ∧ ThA (fun _ => False) U U.heap)) (tx_Q "java/lang/IllegalStateException") 1 6 := by
  refine tx_Met.ofW (cc := prog_1_method_7_code) (maxL := 1) (ret := (some .int)) (by decide) rfl ?_
  intro p e s m args below meth c s₁ B hml hv
  obtain ⟨rfl, hsz, hP, hK, hD0, hN, hT⟩ := hv
  have hx := B.exec
  have hb := B.bytes
  have hr := B.returns
  have ht : ∀ w ∈ wsA, w.before _ s = true := fun w h => atoms_spec (ws := (Cond.code y_NU_deadlock prog_1_method_7_code 1 (some .int) :: wsA)) B.pre w (List.mem_cons_of_mem _ h)
  have hown : s.vm.findClass "NetUnfolder" = some m.cls := findClass_of_methodNamed B.named
  have hlocks := B.notSynchronized
  have hout := B.noHandlers (atoms_spec (ws := (Cond.code y_NU_deadlock prog_1_method_7_code 1 (some .int) :: wsA)) B.pre _ List.mem_cons_self)
  have htr := Launch.traces_off hfl B.admits
  subst hsz
  have hS : va_S (fun q => s.heap.size ≤ q) s.heap s.heap [] := va_S.rf
  have hA : ∀ q : Nat, s.heap.size ≤ q → (fun q => s.heap.size ≤ q) q := fun q h => h
  have hl := lv_entry ([.ref a0]) (n := 1) (Nat.le_of_ble_eq_true rfl)
  rw [lg_entry_eq]
  generalize (lg_sl ([.ref a0]) ++ List.replicate (1 - (lg_sl ([.ref a0])).length) Slot.unset).toArray = ls at hl ⊢
  replace hl : lv_has ls 1 [(0, .ref a0)] := hl
  refine lv_aload_n hx hb d_NU_deadlock_0 rfl (lv_at hl 0 rfl) ?_
  refine va_get (D := (dC, dI)) (ci := 0) (v := .ref a2) (C := "NetUnfolder") (T := T_NU) (N := 5) hx hb ht in_NU hown hK hP 0 rfl rfl 1 (by decide) (ht _ wd_2_37) (fun _ h9 => h9) rfl d_NU_deadlock_1 ?_
  refine va_get (D := (dC, dI)) (ci := 2) (v := .int 0) (C := "NetUnfolder$Prefix") (T := T_Pf) (N := 14) hx hb ht in_Pf hown hK hP 1 rfl rfl 13 (by decide) (ht _ wd_1_106) (fun _ h9 => h9) rfl d_NU_deadlock_4 ?_
  refine lv_if_ne (tgt := 18) hx hb d_NU_deadlock_7 (by decide) (fun h => (h (by decide)).elim) (fun _ => ?_)
  refine va_forget (fun q hq => hS.2.2 q hq) ?_
  refine W.newc hx hb hown (ht _ wd_3_75) (ht _ wd_3_76) (ht _ wd_1_15) (g := F0 m 10 ls []) rfl d_NU_deadlock_10 (Nat.le_of_ble_eq_true rfl) (Nat.le_of_ble_eq_true rfl) (fun cX kX hfX hkX _ _ => ?_)
  refine W.eq (g2 := F0 m 13 ls (.ref _ :: [])) rfl ?_
  refine lv_dup hx hb d_NU_deadlock_13 rfl ?_
  refine W.cs (cells' := 1) (slots' := 6) rfl rfl ?_
  exact tx_throw0 (own := "NetUnfolder") (cls := "java/lang/IllegalStateException") (names := ["java/lang/RuntimeException", "java/lang/Exception"]) (ic := 59) hx hb htr hown (by decide +kernel) (by decide +kernel) (fun a ha => own_before (oa_ISE a ha) ht hT) hfX hkX (by simp) hS.1 (by rw [hml]; exact hl.1) d_NU_deadlock_14 d_NU_deadlock_17 hout (Nat.le_of_ble_eq_true rfl) (Nat.le_of_ble_eq_true rfl) hlocks (fun U _ h => h)

set_option maxHeartbeats 4000000 in
set_option maxRecDepth 100000 in
theorem t_NU_play_0 (l : Launch) (hfl : l.flags = flags0) (dC : Nat → ClassId) (dI : Nat → Nat → Nat) (cI cL cZ : ClassId) (sz : Nat) (a0 : Nat) (a3 : Nat) (a1 : Nat) (a2 : Nat) (a4 : Nat) (a5 : Nat) (a18 : Nat) (k0 : Int32) (h1 : k0 < 0) : tx_Met l y_NU_play (Cond.code y_NU_play prog_1_method_9_code 6 (some .int) :: wsA) { frames := 6, cells := 1, slots := 6, locals := 96 } (va_Pc [.ref a0, .int k0] (fun U => U.heap.size = sz ∧ va_P (dC, dI) clA [(a0, .inr (0, [.ref a1, .ref a2, .ref a3, .ref a4, .ref a5])), (a3, .inr (3, [.ref a18, .int (-1)]))] U.heap ∧ va_K (dC, dI) clA [(cI, .int), (cL, .long), (cZ, .boolean)] U ∧ va_D (fun _ => True) [(a0, .inr (0, [.ref a1, .ref a2, .ref a3, .ref a4, .ref a5])), (a3, .inr (3, [.ref a18, .int (-1)]))] ∧ NwA U ∧ ThA (fun _ => False) U U.heap)) (tx_Q "java/lang/IllegalArgumentException") 1 6 := by
  refine tx_Met.ofW (cc := prog_1_method_9_code) (maxL := 6) (ret := (some .int)) (by decide) rfl ?_
  intro p e s m args below meth c s₁ B hml hv
  obtain ⟨rfl, hsz, hP, hK, hD0, hN, hT⟩ := hv
  have hx := B.exec
  have hb := B.bytes
  have hr := B.returns
  have ht : ∀ w ∈ wsA, w.before _ s = true := fun w h => atoms_spec (ws := (Cond.code y_NU_play prog_1_method_9_code 6 (some .int) :: wsA)) B.pre w (List.mem_cons_of_mem _ h)
  have hown : s.vm.findClass "NetUnfolder" = some m.cls := findClass_of_methodNamed B.named
  have hlocks := B.notSynchronized
  have hout := B.noHandlers (atoms_spec (ws := (Cond.code y_NU_play prog_1_method_9_code 6 (some .int) :: wsA)) B.pre _ List.mem_cons_self)
  have htr := Launch.traces_off hfl B.admits
  subst hsz
  have hS : va_S (fun q => s.heap.size ≤ q) s.heap s.heap [] := va_S.rf
  have hA : ∀ q : Nat, s.heap.size ≤ q → (fun q => s.heap.size ≤ q) q := fun q h => h
  have hl := lv_entry ([.ref a0, .int k0]) (n := 6) (Nat.le_of_ble_eq_true rfl)
  rw [lg_entry_eq]
  generalize (lg_sl ([.ref a0, .int k0]) ++ List.replicate (6 - (lg_sl ([.ref a0, .int k0])).length) Slot.unset).toArray = ls at hl ⊢
  replace hl : lv_has ls 6 [(0, .ref a0), (1, .int k0)] := hl
  refine lv_aload_n hx hb d_NU_play_0 rfl (lv_at hl 0 rfl) ?_
  refine va_get (D := (dC, dI)) (ci := 0) (v := .ref a3) (C := "NetUnfolder") (T := T_NU) (N := 5) hx hb ht in_NU hown hK hP 0 rfl rfl 2 (by decide) (ht _ wd_2_38) (fun _ h9 => h9) rfl d_NU_play_1 ?_
  refine va_get (D := (dC, dI)) (ci := 3) (v := .int (-1)) (C := "NetUnfolder$Way") (T := T_Wa) (N := 2) hx hb ht in_Wa hown hK hP 1 rfl rfl 1 (by decide) (ht _ wd_1_146) (fun _ h9 => h9) rfl d_NU_play_4 ?_
  refine lv_iconst (v := (-1)) hx hb d_NU_play_7 (by decide) ?_
  refine lv_icmp_eq (tgt := 15) hx hb d_NU_play_8 (by decide) (fun _ => ?_) (fun h => (h (by decide)).elim)
  refine lv_iconst (v := 0) hx hb d_NU_play_15 (by decide) ?_
  refine lv_istore_n (lv' := [(2, .int 0), (0, .ref a0), (1, .int k0)]) hx hb d_NU_play_16 rfl hl (by decide) rfl (fun ls hln => ?_)
  replace hl : lv_has ls 6 [(2, .int 0), (0, .ref a0), (1, .int k0)] := hln
  clear hln
  refine lv_iload_n hx hb d_NU_play_17 rfl (lv_at hl 2 rfl) ?_
  refine lv_if_lt (tgt := 36) hx hb d_NU_play_18 (by decide) (fun _ => ?_) (fun h9 => (by exfalso; have eh1 := fa_lt (k := 0) (by decide) h1; have eh9 := fa_nlt (k := 0) (by decide) h9; omega))
  refine va_forget (fun q hq => hS.2.2 q hq) ?_
  refine W.newc hx hb hown (ht _ wd_3_13) (ht _ wd_3_14) (ht _ wd_1_14) (g := F0 m 36 ls []) rfl d_NU_play_36 (Nat.le_of_ble_eq_true rfl) (Nat.le_of_ble_eq_true rfl) (fun cX kX hfX hkX _ _ => ?_)
  refine W.eq (g2 := F0 m 39 ls (.ref _ :: [])) rfl ?_
  refine lv_dup hx hb d_NU_play_39 rfl ?_
  refine W.cs (cells' := 1) (slots' := 6) rfl rfl ?_
  exact tx_throw0 (own := "NetUnfolder") (cls := "java/lang/IllegalArgumentException") (names := ["java/lang/RuntimeException", "java/lang/Exception"]) (ic := 52) hx hb htr hown (by decide +kernel) (by decide +kernel) (fun a ha => own_before (oa_IAE a ha) ht hT) hfX hkX (by simp) hS.1 (by rw [hml]; exact hl.1) d_NU_play_40 d_NU_play_43 hout (Nat.le_of_ble_eq_true rfl) (Nat.le_of_ble_eq_true rfl) hlocks (fun U _ h => h)

set_option maxHeartbeats 4000000 in
set_option maxRecDepth 100000 in
theorem t_NU_play_1 (l : Launch) (hfl : l.flags = flags0) (dC : Nat → ClassId) (dI : Nat → Nat → Nat) (cI cL cZ : ClassId) (sz : Nat) (a0 : Nat) (a3 : Nat) (a1 : Nat) (a2 : Nat) (a4 : Nat) (a5 : Nat) (a18 : Nat) (k0 : Int32) (h1 : ¬ k0 < 0) : tx_Met l y_NU_play (Cond.code y_NU_play prog_1_method_9_code 6 (some .int) :: wsA) { frames := 6, cells := 1, slots := 6, locals := 96 } (va_Pc [.ref a0, .int k0] (fun U => U.heap.size = sz ∧ va_P (dC, dI) clA [(a0, .inr (0, [.ref a1, .ref a2, .ref a3, .ref a4, .ref a5])), (a3, .inr (3, [.ref a18, .int (-1)]))] U.heap ∧ va_K (dC, dI) clA [(cI, .int), (cL, .long), (cZ, .boolean)] U ∧ va_D (fun _ => True) [(a0, .inr (0, [.ref a1, .ref a2, .ref a3, .ref a4, .ref a5])), (a3, .inr (3, [.ref a18, .int (-1)]))] ∧ NwA U ∧ ThA (fun _ => False) U U.heap)) (tx_Q "java/lang/IllegalStateException") 1 6 := by
  refine tx_Met.ofW (cc := prog_1_method_9_code) (maxL := 6) (ret := (some .int)) (by decide) rfl ?_
  intro p e s m args below meth c s₁ B hml hv
  obtain ⟨rfl, hsz, hP, hK, hD0, hN, hT⟩ := hv
  have hx := B.exec
  have hb := B.bytes
  have hr := B.returns
  have ht : ∀ w ∈ wsA, w.before _ s = true := fun w h => atoms_spec (ws := (Cond.code y_NU_play prog_1_method_9_code 6 (some .int) :: wsA)) B.pre w (List.mem_cons_of_mem _ h)
  have hown : s.vm.findClass "NetUnfolder" = some m.cls := findClass_of_methodNamed B.named
  have hlocks := B.notSynchronized
  have hout := B.noHandlers (atoms_spec (ws := (Cond.code y_NU_play prog_1_method_9_code 6 (some .int) :: wsA)) B.pre _ List.mem_cons_self)
  have htr := Launch.traces_off hfl B.admits
  subst hsz
  have hS : va_S (fun q => s.heap.size ≤ q) s.heap s.heap [] := va_S.rf
  have hA : ∀ q : Nat, s.heap.size ≤ q → (fun q => s.heap.size ≤ q) q := fun q h => h
  have hl := lv_entry ([.ref a0, .int k0]) (n := 6) (Nat.le_of_ble_eq_true rfl)
  rw [lg_entry_eq]
  generalize (lg_sl ([.ref a0, .int k0]) ++ List.replicate (6 - (lg_sl ([.ref a0, .int k0])).length) Slot.unset).toArray = ls at hl ⊢
  replace hl : lv_has ls 6 [(0, .ref a0), (1, .int k0)] := hl
  refine lv_aload_n hx hb d_NU_play_0 rfl (lv_at hl 0 rfl) ?_
  refine va_get (D := (dC, dI)) (ci := 0) (v := .ref a3) (C := "NetUnfolder") (T := T_NU) (N := 5) hx hb ht in_NU hown hK hP 0 rfl rfl 2 (by decide) (ht _ wd_2_38) (fun _ h9 => h9) rfl d_NU_play_1 ?_
  refine va_get (D := (dC, dI)) (ci := 3) (v := .int (-1)) (C := "NetUnfolder$Way") (T := T_Wa) (N := 2) hx hb ht in_Wa hown hK hP 1 rfl rfl 1 (by decide) (ht _ wd_1_146) (fun _ h9 => h9) rfl d_NU_play_4 ?_
  refine lv_iconst (v := (-1)) hx hb d_NU_play_7 (by decide) ?_
  refine lv_icmp_eq (tgt := 15) hx hb d_NU_play_8 (by decide) (fun _ => ?_) (fun h => (h (by decide)).elim)
  refine lv_iconst (v := 0) hx hb d_NU_play_15 (by decide) ?_
  refine lv_istore_n (lv' := [(2, .int 0), (0, .ref a0), (1, .int k0)]) hx hb d_NU_play_16 rfl hl (by decide) rfl (fun ls hln => ?_)
  replace hl : lv_has ls 6 [(2, .int 0), (0, .ref a0), (1, .int k0)] := hln
  clear hln
  refine lv_iload_n hx hb d_NU_play_17 rfl (lv_at hl 2 rfl) ?_
  refine lv_if_lt (tgt := 36) hx hb d_NU_play_18 (by decide) (fun h9 => (by exfalso; have eh1 := fa_nlt (k := 0) (by decide) h1; have eh9 := fa_lt (k := 0) (by decide) h9; omega)) (fun _ => ?_)
  refine lv_iload_n hx hb d_NU_play_21 rfl (lv_at hl 0 rfl) ?_
  refine lv_if_eq (tgt := 44) hx hb d_NU_play_22 (by decide) (fun _ => ?_) (fun h => (h (by decide)).elim)
  refine lv_iload_n hx hb d_NU_play_44 rfl (lv_at hl 0 rfl) ?_
  refine lv_if_ne (tgt := 56) hx hb d_NU_play_45 (by decide) (fun h => (h (by decide)).elim) (fun _ => ?_)
  refine va_forget (fun q hq => hS.2.2 q hq) ?_
  refine W.newc hx hb hown (ht _ wd_3_75) (ht _ wd_3_76) (ht _ wd_1_15) (g := F0 m 48 ls []) rfl d_NU_play_48 (Nat.le_of_ble_eq_true rfl) (Nat.le_of_ble_eq_true rfl) (fun cX kX hfX hkX _ _ => ?_)
  refine W.eq (g2 := F0 m 51 ls (.ref _ :: [])) rfl ?_
  refine lv_dup hx hb d_NU_play_51 rfl ?_
  refine W.cs (cells' := 1) (slots' := 6) rfl rfl ?_
  exact tx_throw0 (own := "NetUnfolder") (cls := "java/lang/IllegalStateException") (names := ["java/lang/RuntimeException", "java/lang/Exception"]) (ic := 59) hx hb htr hown (by decide +kernel) (by decide +kernel) (fun a ha => own_before (oa_ISE a ha) ht hT) hfX hkX (by simp) hS.1 (by rw [hml]; exact hl.1) d_NU_play_52 d_NU_play_55 hout (Nat.le_of_ble_eq_true rfl) (Nat.le_of_ble_eq_true rfl) hlocks (fun U _ h => h)
