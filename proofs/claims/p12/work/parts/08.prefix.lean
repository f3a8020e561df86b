set_option maxHeartbeats 4000000 in
set_option maxRecDepth 100000 in
theorem c_Pf_isCutOff (l : Launch) (dC : Nat → ClassId) (dI : Nat → Nat → Nat) (cI cL cZ : ClassId) (sz : Nat) (f0 : Nat) (f1 : Nat) (f2 : Nat) (f3 : Nat) (f4 : Nat) (f5 : Nat) (f6 : Nat) (f7 : Nat) (f8 : Nat) (f9 : Nat) (f10 : Nat) (pfc : Nat) (pfe : Nat) (pfu : Int32) (pfw : Int32) (k : Nat) (hk : k < 64) : Met l y_Pf_isCutOff (Cond.code y_Pf_isCutOff prog_5_method_3_code 2 (some .boolean) :: wsA) { frames := 1, cells := 0, slots := 0, locals := 22 } (va_Pc [.ref f0, .int (nI k)] (fun U => U.heap.size = sz ∧ va_P (dC, dI) clA [(f0, .inr (2, [.int (nI pfc), .ref f1, .ref f2, .ref f3, .ref f4, .ref f5, .int (nI pfe), .ref f6, .ref f7, .ref f8, .ref f9, .ref f10, .int pfu, .int pfw]))] U.heap ∧ va_K (dC, dI) clA [(cI, .int), (cL, .long), (cZ, .boolean)] U ∧ va_D (fun _ => True) [(f0, .inr (2, [.int (nI pfc), .ref f1, .ref f2, .ref f3, .ref f4, .ref f5, .int (nI pfe), .ref f6, .ref f7, .ref f8, .ref f9, .ref f10, .int pfu, .int pfw]))] ∧ NwA U)) (va_Qi (fun r (_ : Unit) => (r = 0 ∨ r = 1)) (fun _ t => va_P (dC, dI) clA [(f0, .inr (2, [.int (nI pfc), .ref f1, .ref f2, .ref f3, .ref f4, .ref f5, .int (nI pfe), .ref f6, .ref f7, .ref f8, .ref f9, .ref f10, .int pfu, .int pfw]))] t.heap ∧ va_D (va_A [(f0, .inr (2, [.int (nI pfc), .ref f1, .ref f2, .ref f3, .ref f4, .ref f5, .int (nI pfe), .ref f6, .ref f7, .ref f8, .ref f9, .ref f10, .int pfu, .int pfw]))] sz) [(f0, .inr (2, [.int (nI pfc), .ref f1, .ref f2, .ref f3, .ref f4, .ref f5, .int (nI pfe), .ref f6, .ref f7, .ref f8, .ref f9, .ref f10, .int pfu, .int pfw]))]) (va_A [(f0, .inr (2, [.int (nI pfc), .ref f1, .ref f2, .ref f3, .ref f4, .ref f5, .int (nI pfe), .ref f6, .ref f7, .ref f8, .ref f9, .ref f10, .int pfu, .int pfw]))] sz)) 0 0 (va_A [(f0, .inr (2, [.int (nI pfc), .ref f1, .ref f2, .ref f3, .ref f4, .ref f5, .int (nI pfe), .ref f6, .ref f7, .ref f8, .ref f9, .ref f10, .int pfu, .int pfw]))] sz) := by
  refine Met.ofW (cc := prog_5_method_3_code) (maxL := 2) (ret := (some .boolean)) (by decide) rfl ?_
  intro p e s m args below meth c s₁ B hml hv
  obtain ⟨rfl, hsz, hP, hK, hD0, hN⟩ := hv
  have hx := B.exec
  have hb := B.bytes
  have hr := B.returns
  have ht : ∀ w ∈ wsA, w.before _ s = true := fun w h => atoms_spec (ws := (Cond.code y_Pf_isCutOff prog_5_method_3_code 2 (some .boolean) :: wsA)) B.pre w (List.mem_cons_of_mem _ h)
  have hown : s.vm.findClass "NetUnfolder$Prefix" = some m.cls := findClass_of_methodNamed B.named
  have hlocks := B.notSynchronized
  subst hsz
  have hD := hD0.self (sz := s.heap.size)
  generalize hAe : va_A [(f0, .inr (2, [.int (nI pfc), .ref f1, .ref f2, .ref f3, .ref f4, .ref f5, .int (nI pfe), .ref f6, .ref f7, .ref f8, .ref f9, .ref f10, .int pfu, .int pfw]))] s.heap.size = A at hD ⊢
  have hA : ∀ q : Nat, s.heap.size ≤ q → A q := fun q h => by rw [← hAe]; exact Or.inr h
  have hS : va_S A s.heap s.heap [] := va_S.rf
  have hl := lv_entry ([.ref f0, .int (nI k)]) (n := 2) (Nat.le_of_ble_eq_true rfl)
  rw [lg_entry_eq]
  generalize (lg_sl ([.ref f0, .int (nI k)]) ++ List.replicate (2 - (lg_sl ([.ref f0, .int (nI k)])).length) Slot.unset).toArray = ls at hl ⊢
  replace hl : lv_has ls 2 [(0, .ref f0), (1, .int (nI k))] := hl
  refine W_Q (fun Q hQ => ?_)
  refine lv_aload_n hx hb d_Pf_isCutOff_0 rfl (lv_at hl 0 rfl) ?_
  refine va_get (D := (dC, dI)) (ci := 2) (v := .int pfu) (C := "NetUnfolder$Prefix") (T := T_Pf) (N := 14) hx hb ht in_Pf hown hK hP 0 rfl rfl 12 (by decide) (ht _ wd_1_100) (fun _ h9 => h9) rfl d_Pf_isCutOff_1 ?_
  refine lv_i2l (v := Int32.toInt64 pfu) hx hb d_Pf_isCutOff_4 rfl ?_
  refine lv_iload_n hx hb d_Pf_isCutOff_5 rfl (lv_at hl 1 rfl) ?_
  have hPc : va_P (dC, dI) clA [] _ := pu_P (H := s.heap)
  have hDc : va_D (fun _ => True) [] := pu_D
  have hFc := pu_free hS hA
  refine va_calli (va_runSN (As := [.long (Int32.toInt64 pfu), .int (nI k)]) (rest := []) ⟨hx, hb, hml, hown, ht⟩ (c_NU_has l dC dI cI cL cZ _ (Int32.toInt64 pfu) k (by first | assumption | omega | trivial | exact AllLt.zero | exact AllN.zero | exact Or.inl rfl | exact Or.inr rfl)) ⟨va_cnB 2 ht (goodA wd_2_102) rfl rfl rfl hN.2.2.2.2.1 (ht _ wd_1_1) (by decide +kernel) ⟨Nat.le_of_ble_eq_true rfl, Nat.le_of_ble_eq_true rfl⟩, ht _ wd_2_101, trivial⟩ ⟨fun a U g mk q => by obtain ⟨q0, q1, qP, qK, qD, qN⟩ := q; exact ⟨q0, q1, qP, va_K.moved (u := U) (U := U.calling g mk a) (Vm.Alike.refl U.vm) qK, qD, NwA.same (u := U) rfl qN⟩, fun U hU hW => ⟨rfl, by rw [hU], by rw [hU]; exact hPc, va_K.moved hW.alike hK, hDc.weaken (fun _ _ _ _ => trivial), NwA.warm hW hN⟩⟩ rfl rfl hl.1 rfl (lv_room (Nat.le_of_ble_eq_true rfl)) d_Pf_isCutOff_6 ⟨Nat.le_of_ble_eq_true rfl, Nat.le_of_ble_eq_true rfl⟩) hS (fun q _ h => hFc q h) hFc (fun r3 u9 t9 H1 locs ht9 hvm hw2 hB hz1 hk1 hSn => ?_)
  replace hP : va_P (dC, dI) clA [(f0, .inr (2, [.int (nI pfc), .ref f1, .ref f2, .ref f3, .ref f4, .ref f5, .int (nI pfe), .ref f6, .ref f7, .ref f8, .ref f9, .ref f10, .int pfu, .int pfw]))] H1 := pu_keep hP hk1
  replace hS := hSn
  clear hSn hPc hDc hFc hk1 hz1 ht9 hvm hB
  refine W.cs (cells' := 0) (slots' := 0) rfl rfl ?_
  subst hw2
  have h01 := hasv_01 (Int32.toInt64 pfu) k
  have hP9 := hP.sub (ws' := [(f0, .inr (2, [.int (nI pfc), .ref f1, .ref f2, .ref f3, .ref f4, .ref f5, .int (nI pfe), .ref f6, .ref f7, .ref f8, .ref f9, .ref f10, .int pfu, .int pfw]))]) [0] rfl
  have hD9 := hD.sub (ws' := [(f0, .inr (2, [.int (nI pfc), .ref f1, .ref f2, .ref f3, .ref f4, .ref f5, .int (nI pfe), .ref f6, .ref f7, .ref f8, .ref f9, .ref f10, .int pfu, .int pfw]))]) [0] (by decide) rfl
  subst hQ
  exact W.zret (v := hasv (Int32.toInt64 pfu) k) hx hb hr (bz_nar (by assumption)) (fun t9 ht9 hW => ⟨⟨hasv (Int32.toInt64 pfu) k, (), rfl, (by first | assumption | omega | trivial | exact AllLt.zero | exact AllN.zero | exact Or.inl rfl | exact Or.inr rfl), by rw [ht9]; exact hP9, hD9⟩, hS.F ht9⟩) hS.2.2 d_Pf_isCutOff_9

set_option maxHeartbeats 4000000 in
set_option maxRecDepth 100000 in
theorem c_Pf_wipe (l : Launch) (dC : Nat → ClassId) (dI : Nat → Nat → Nat) (cI cL cZ : ClassId) (sz : Nat) (f0 : Nat) (f1 : Nat) (f2 : Nat) (f3 : Nat) (f4 : Nat) (f5 : Nat) (f6 : Nat) (f7 : Nat) (f8 : Nat) (f9 : Nat) (f10 : Nat) (pfc : Nat) (pfe : Nat) (pfu : Int32) (pfw : Int32) (fop : Nat → Int64) : Met l y_Pf_wipe (Cond.code y_Pf_wipe prog_5_method_2_code 1 none :: wsA) { frames := 1, cells := 0, slots := 0, locals := 24 } (va_Pc [.ref f0] (fun U => U.heap.size = sz ∧ va_P (dC, dI) clA [(f0, .inr (2, [.int (nI pfc), .ref f1, .ref f2, .ref f3, .ref f4, .ref f5, .int (nI pfe), .ref f6, .ref f7, .ref f8, .ref f9, .ref f10, .int pfu, .int pfw])), (f5, .inl (cL, 8, .inr (.inl fop)))] U.heap ∧ va_K (dC, dI) clA [(cI, .int), (cL, .long), (cZ, .boolean)] U ∧ va_D (fun _ => True) [(f0, .inr (2, [.int (nI pfc), .ref f1, .ref f2, .ref f3, .ref f4, .ref f5, .int (nI pfe), .ref f6, .ref f7, .ref f8, .ref f9, .ref f10, .int pfu, .int pfw])), (f5, .inl (cL, 8, .inr (.inl fop)))] ∧ NwA U)) (va_Qv (fun _ : Unit => True) (fun _ t => ∃ (fop1 : Nat → Int64), va_P (dC, dI) clA [(f0, .inr (2, [.int 0, .ref f1, .ref f2, .ref f3, .ref f4, .ref f5, .int 0, .ref f6, .ref f7, .ref f8, .ref f9, .ref f10, .int 0, .int 0])), (f5, .inl (cL, 8, .inr (.inl fop1)))] t.heap ∧ va_D (va_A [(f0, .inr (2, [.int (nI pfc), .ref f1, .ref f2, .ref f3, .ref f4, .ref f5, .int (nI pfe), .ref f6, .ref f7, .ref f8, .ref f9, .ref f10, .int pfu, .int pfw])), (f5, .inl (cL, 8, .inr (.inl fop)))] sz) [(f0, .inr (2, [.int 0, .ref f1, .ref f2, .ref f3, .ref f4, .ref f5, .int 0, .ref f6, .ref f7, .ref f8, .ref f9, .ref f10, .int 0, .int 0])), (f5, .inl (cL, 8, .inr (.inl fop1)))]) (va_A [(f0, .inr (2, [.int (nI pfc), .ref f1, .ref f2, .ref f3, .ref f4, .ref f5, .int (nI pfe), .ref f6, .ref f7, .ref f8, .ref f9, .ref f10, .int pfu, .int pfw])), (f5, .inl (cL, 8, .inr (.inl fop)))] sz)) 0 0 (va_A [(f0, .inr (2, [.int (nI pfc), .ref f1, .ref f2, .ref f3, .ref f4, .ref f5, .int (nI pfe), .ref f6, .ref f7, .ref f8, .ref f9, .ref f10, .int pfu, .int pfw])), (f5, .inl (cL, 8, .inr (.inl fop)))] sz) := by
  refine Met.ofW (cc := prog_5_method_2_code) (maxL := 1) (ret := none) (by decide) rfl ?_
  intro p e s m args below meth c s₁ B hml hv
  obtain ⟨rfl, hsz, hP, hK, hD0, hN⟩ := hv
  have hx := B.exec
  have hb := B.bytes
  have hr := B.returns
  have ht : ∀ w ∈ wsA, w.before _ s = true := fun w h => atoms_spec (ws := (Cond.code y_Pf_wipe prog_5_method_2_code 1 none :: wsA)) B.pre w (List.mem_cons_of_mem _ h)
  have hown : s.vm.findClass "NetUnfolder$Prefix" = some m.cls := findClass_of_methodNamed B.named
  have hlocks := B.notSynchronized
  subst hsz
  have hD := hD0.self (sz := s.heap.size)
  generalize hAe : va_A [(f0, .inr (2, [.int (nI pfc), .ref f1, .ref f2, .ref f3, .ref f4, .ref f5, .int (nI pfe), .ref f6, .ref f7, .ref f8, .ref f9, .ref f10, .int pfu, .int pfw])), (f5, .inl (cL, 8, .inr (.inl fop)))] s.heap.size = A at hD ⊢
  have hA : ∀ q : Nat, s.heap.size ≤ q → A q := fun q h => by rw [← hAe]; exact Or.inr h
  have hS : va_S A s.heap s.heap [] := va_S.rf
  have hl := lv_entry ([.ref f0]) (n := 1) (Nat.le_of_ble_eq_true rfl)
  rw [lg_entry_eq]
  generalize (lg_sl ([.ref f0]) ++ List.replicate (1 - (lg_sl ([.ref f0])).length) Slot.unset).toArray = ls at hl ⊢
  replace hl : lv_has ls 1 [(0, .ref f0)] := hl
  refine W_Q (fun Q hQ => ?_)
  refine lv_aload_n hx hb d_Pf_wipe_0 rfl (lv_at hl 0 rfl) ?_
  refine lv_iconst (v := 0) hx hb d_Pf_wipe_1 (by decide) ?_
  refine va_put (D := (dC, dI)) (ci := 2) (v := .int 0) (ty := .int) (C := "NetUnfolder$Prefix") (T := T_Pf) (N := 14) hx hb ht in_Pf ty_Pf ok_Pf nm_Pf hown hK hP hD hS 0 rfl rfl 0 (by decide) (ht _ wd_1_62) (fun _ h9 => h9) rfl (by decide +kernel) rfl rfl (Nat.le_of_ble_eq_true rfl) d_Pf_wipe_2 (fun H1 locs hPn hDn hSn => ?_)
  replace hP : va_P (dC, dI) clA [(f0, .inr (2, [.int 0, .ref f1, .ref f2, .ref f3, .ref f4, .ref f5, .int (nI pfe), .ref f6, .ref f7, .ref f8, .ref f9, .ref f10, .int pfu, .int pfw])), (f5, .inl (cL, 8, .inr (.inl fop)))] H1 := hPn
  replace hD : va_D A [(f0, .inr (2, [.int 0, .ref f1, .ref f2, .ref f3, .ref f4, .ref f5, .int (nI pfe), .ref f6, .ref f7, .ref f8, .ref f9, .ref f10, .int pfu, .int pfw])), (f5, .inl (cL, 8, .inr (.inl fop)))] := hDn
  replace hS := hSn
  clear hPn hDn hSn
  refine lv_aload_n hx hb d_Pf_wipe_5 rfl (lv_at hl 0 rfl) ?_
  refine va_get (D := (dC, dI)) (ci := 2) (v := .ref f5) (C := "NetUnfolder$Prefix") (T := T_Pf) (N := 14) hx hb ht in_Pf hown hK hP 0 rfl rfl 5 (by decide) (ht _ wd_1_79) (fun _ h9 => h9) rfl d_Pf_wipe_6 ?_
  refine lv_lconst (v := 0) hx hb d_Pf_wipe_9 (by decide) ?_
  have hPc := hP.sub (ws' := [(f5, .inl (cL, 8, .inr (.inl fop)))]) [1] rfl
  have hDc := hD.sub (ws' := [(f5, .inl (cL, 8, .inr (.inl fop)))]) [1] (by decide) rfl
  have hFc := va_free (wc := [(f5, .inl (cL, 8, .inr (.inl fop)))]) hD hS hA [1] rfl
  refine va_callv (va_runS (As := [.ref f5, .long 0]) (rest := []) ⟨hx, hb, hml, hown, ht⟩ (c_Ar_fill_8 l dC dI cI cL cZ _ f5 fop 0 ) (va_cwS 2 ht (good_S wd_2_64 wd_2_65 wd_1_16 wd_2_66) rfl rfl rfl (by decide +kernel) ⟨Nat.le_of_ble_eq_true rfl, Nat.le_of_ble_eq_true rfl⟩) ⟨fun a U g mk q => by obtain ⟨q0, q1, qP, qK, qD, qN⟩ := q; exact ⟨q0, q1, qP, va_K.moved (u := U) (U := U.calling g mk a) (Vm.Alike.refl U.vm) qK, qD, NwA.same (u := U) rfl qN⟩, fun U hU hW => ⟨rfl, by rw [hU], by rw [hU]; exact hPc, va_K.moved hW.alike hK, hDc.weaken (fun _ _ _ _ => trivial), NwA.warm hW hN⟩⟩ rfl rfl hl.1 rfl (lv_room (Nat.le_of_ble_eq_true rfl)) d_Pf_wipe_10 ⟨Nat.le_of_ble_eq_true rfl, Nat.le_of_ble_eq_true rfl⟩) hS (fun q _ h => hFc q h) hFc (fun u9 t9 H2 locs ht9 hvm hw3 hB hz1 hk1 hSn => ?_)
  obtain ⟨f15, hf6, hP1, hD1⟩ := hB
  rw [ht9] at hP1
  obtain ⟨hPn, hDn⟩ := va_join (wr := [(f0, .inr (2, [.int 0, .ref f1, .ref f2, .ref f3, .ref f4, .ref f5, .int (nI pfe), .ref f6, .ref f7, .ref f8, .ref f9, .ref f10, .int pfu, .int pfw]))]) (w1 := [(f5, .inl (cL, 8, .inr (.inl f15)))]) hP hD [1] [0] rfl rfl (by decide) (by decide) hk1 hFc hP1 hD1
  replace hP : va_P (dC, dI) clA [(f0, .inr (2, [.int 0, .ref f1, .ref f2, .ref f3, .ref f4, .ref f5, .int (nI pfe), .ref f6, .ref f7, .ref f8, .ref f9, .ref f10, .int pfu, .int pfw])), (f5, .inl (cL, 8, .inr (.inl f15)))] H2 := hPn
  replace hD : va_D A [(f0, .inr (2, [.int 0, .ref f1, .ref f2, .ref f3, .ref f4, .ref f5, .int (nI pfe), .ref f6, .ref f7, .ref f8, .ref f9, .ref f10, .int pfu, .int pfw])), (f5, .inl (cL, 8, .inr (.inl f15)))] := hDn
  replace hS := hSn
  clear hPn hDn hSn
  clear hPc hDc hFc hP1 hD1 hk1 hz1 ht9 hvm
  refine W.cs (cells' := 0) (slots' := 0) rfl rfl ?_
  refine lv_aload_n hx hb d_Pf_wipe_13 rfl (lv_at hl 0 rfl) ?_
  refine lv_iconst (v := 0) hx hb d_Pf_wipe_14 (by decide) ?_
  refine va_put (D := (dC, dI)) (ci := 2) (v := .int 0) (ty := .int) (C := "NetUnfolder$Prefix") (T := T_Pf) (N := 14) hx hb ht in_Pf ty_Pf ok_Pf nm_Pf hown hK hP hD hS 0 rfl rfl 6 (by decide) (ht _ wd_1_82) (fun _ h9 => h9) rfl (by decide +kernel) rfl rfl (Nat.le_of_ble_eq_true rfl) d_Pf_wipe_15 (fun H7 locs hPn hDn hSn => ?_)
  replace hP : va_P (dC, dI) clA [(f0, .inr (2, [.int 0, .ref f1, .ref f2, .ref f3, .ref f4, .ref f5, .int 0, .ref f6, .ref f7, .ref f8, .ref f9, .ref f10, .int pfu, .int pfw])), (f5, .inl (cL, 8, .inr (.inl f15)))] H7 := hPn
  replace hD : va_D A [(f0, .inr (2, [.int 0, .ref f1, .ref f2, .ref f3, .ref f4, .ref f5, .int 0, .ref f6, .ref f7, .ref f8, .ref f9, .ref f10, .int pfu, .int pfw])), (f5, .inl (cL, 8, .inr (.inl f15)))] := hDn
  replace hS := hSn
  clear hPn hDn hSn
  refine lv_aload_n hx hb d_Pf_wipe_18 rfl (lv_at hl 0 rfl) ?_
  refine lv_iconst (v := 0) hx hb d_Pf_wipe_19 (by decide) ?_
  refine va_put (D := (dC, dI)) (ci := 2) (v := .int 0) (ty := .int) (C := "NetUnfolder$Prefix") (T := T_Pf) (N := 14) hx hb ht in_Pf ty_Pf ok_Pf nm_Pf hown hK hP hD hS 0 rfl rfl 12 (by decide) (ht _ wd_1_100) (fun _ h9 => h9) rfl (by decide +kernel) rfl rfl (Nat.le_of_ble_eq_true rfl) d_Pf_wipe_20 (fun H8 locs hPn hDn hSn => ?_)
  replace hP : va_P (dC, dI) clA [(f0, .inr (2, [.int 0, .ref f1, .ref f2, .ref f3, .ref f4, .ref f5, .int 0, .ref f6, .ref f7, .ref f8, .ref f9, .ref f10, .int 0, .int pfw])), (f5, .inl (cL, 8, .inr (.inl f15)))] H8 := hPn
  replace hD : va_D A [(f0, .inr (2, [.int 0, .ref f1, .ref f2, .ref f3, .ref f4, .ref f5, .int 0, .ref f6, .ref f7, .ref f8, .ref f9, .ref f10, .int 0, .int pfw])), (f5, .inl (cL, 8, .inr (.inl f15)))] := hDn
  replace hS := hSn
  clear hPn hDn hSn
  refine lv_aload_n hx hb d_Pf_wipe_23 rfl (lv_at hl 0 rfl) ?_
  refine lv_iconst (v := 0) hx hb d_Pf_wipe_24 (by decide) ?_
  refine va_put (D := (dC, dI)) (ci := 2) (v := .int 0) (ty := .boolean) (C := "NetUnfolder$Prefix") (T := T_Pf) (N := 14) hx hb ht in_Pf ty_Pf ok_Pf nm_Pf hown hK hP hD hS 0 rfl rfl 13 (by decide) (ht _ wd_1_104) (fun _ h9 => h9) rfl (by decide +kernel) rfl rfl (Nat.le_of_ble_eq_true rfl) d_Pf_wipe_25 (fun H9 locs hPn hDn hSn => ?_)
  replace hP : va_P (dC, dI) clA [(f0, .inr (2, [.int 0, .ref f1, .ref f2, .ref f3, .ref f4, .ref f5, .int 0, .ref f6, .ref f7, .ref f8, .ref f9, .ref f10, .int 0, .int 0])), (f5, .inl (cL, 8, .inr (.inl f15)))] H9 := hPn
  replace hD : va_D A [(f0, .inr (2, [.int 0, .ref f1, .ref f2, .ref f3, .ref f4, .ref f5, .int 0, .ref f6, .ref f7, .ref f8, .ref f9, .ref f10, .int 0, .int 0])), (f5, .inl (cL, 8, .inr (.inl f15)))] := hDn
  replace hS := hSn
  clear hPn hDn hSn
  have hP9 := hP.sub (ws' := [(f0, .inr (2, [.int 0, .ref f1, .ref f2, .ref f3, .ref f4, .ref f5, .int 0, .ref f6, .ref f7, .ref f8, .ref f9, .ref f10, .int 0, .int 0])), (f5, .inl (cL, 8, .inr (.inl f15)))]) [0, 1] rfl
  have hD9 := hD.sub (ws' := [(f0, .inr (2, [.int 0, .ref f1, .ref f2, .ref f3, .ref f4, .ref f5, .int 0, .ref f6, .ref f7, .ref f8, .ref f9, .ref f10, .int 0, .int 0])), (f5, .inl (cL, 8, .inr (.inl f15)))]) [0, 1] (by decide) rfl
  subst hQ
  exact W.vret hx hb hr (fun t9 ht9 hW => ⟨⟨(), rfl, trivial, f15, by rw [ht9]; exact hP9, hD9⟩, hS.F ht9⟩) hS.2.2 d_Pf_wipe_28

set_option maxHeartbeats 4000000 in
set_option maxRecDepth 100000 in
theorem c_Pf_causesOf (l : Launch) (dC : Nat → ClassId) (dI : Nat → Nat → Nat) (cI cL cZ : ClassId) (sz : Nat) (f0 : Nat) (f1 : Nat) (f2 : Nat) (f3 : Nat) (f4 : Nat) (f5 : Nat) (f6 : Nat) (f7 : Nat) (f8 : Nat) (f9 : Nat) (f10 : Nat) (pfc : Nat) (pfe : Nat) (pfu : Int32) (pfw : Int32) (fmk : Nat → Int32) (fca : Nat → Int32) (x : Int64) (hpc : pfc ≤ 60) (hmk : AllN fmk pfc 30) : Met l y_Pf_causesOf (Cond.code y_Pf_causesOf prog_5_method_7_code 5 (some .int) :: wsA) { frames := 1, cells := 0, slots := 0, locals := 22 } (va_Pc [.ref f0, .long x] (fun U => U.heap.size = sz ∧ va_P (dC, dI) clA [(f0, .inr (2, [.int (nI pfc), .ref f1, .ref f2, .ref f3, .ref f4, .ref f5, .int (nI pfe), .ref f6, .ref f7, .ref f8, .ref f9, .ref f10, .int pfu, .int pfw])), (f2, .inl (cI, 60, .inl fmk)), (f8, .inl (cI, 30, .inl fca))] U.heap ∧ va_K (dC, dI) clA [(cI, .int), (cL, .long), (cZ, .boolean)] U ∧ va_D (fun _ => True) [(f0, .inr (2, [.int (nI pfc), .ref f1, .ref f2, .ref f3, .ref f4, .ref f5, .int (nI pfe), .ref f6, .ref f7, .ref f8, .ref f9, .ref f10, .int pfu, .int pfw])), (f2, .inl (cI, 60, .inl fmk)), (f8, .inl (cI, 30, .inl fca))] ∧ NwA U)) (va_Qi (fun r (_ : Unit) => True) (fun _ t => va_P (dC, dI) clA [(f0, .inr (2, [.int (nI pfc), .ref f1, .ref f2, .ref f3, .ref f4, .ref f5, .int (nI pfe), .ref f6, .ref f7, .ref f8, .ref f9, .ref f10, .int pfu, .int pfw])), (f2, .inl (cI, 60, .inl fmk)), (f8, .inl (cI, 30, .inl fca))] t.heap ∧ va_D (va_A [(f0, .inr (2, [.int (nI pfc), .ref f1, .ref f2, .ref f3, .ref f4, .ref f5, .int (nI pfe), .ref f6, .ref f7, .ref f8, .ref f9, .ref f10, .int pfu, .int pfw])), (f2, .inl (cI, 60, .inl fmk)), (f8, .inl (cI, 30, .inl fca))] sz) [(f0, .inr (2, [.int (nI pfc), .ref f1, .ref f2, .ref f3, .ref f4, .ref f5, .int (nI pfe), .ref f6, .ref f7, .ref f8, .ref f9, .ref f10, .int pfu, .int pfw])), (f2, .inl (cI, 60, .inl fmk)), (f8, .inl (cI, 30, .inl fca))]) (va_A [(f0, .inr (2, [.int (nI pfc), .ref f1, .ref f2, .ref f3, .ref f4, .ref f5, .int (nI pfe), .ref f6, .ref f7, .ref f8, .ref f9, .ref f10, .int pfu, .int pfw])), (f2, .inl (cI, 60, .inl fmk)), (f8, .inl (cI, 30, .inl fca))] sz)) 0 0 (va_A [(f0, .inr (2, [.int (nI pfc), .ref f1, .ref f2, .ref f3, .ref f4, .ref f5, .int (nI pfe), .ref f6, .ref f7, .ref f8, .ref f9, .ref f10, .int pfu, .int pfw])), (f2, .inl (cI, 60, .inl fmk)), (f8, .inl (cI, 30, .inl fca))] sz) := by
  refine Met.ofW (cc := prog_5_method_7_code) (maxL := 5) (ret := (some .int)) (by decide) rfl ?_
  intro p e s m args below meth c s₁ B hml hv
  obtain ⟨rfl, hsz, hP, hK, hD0, hN⟩ := hv
  have hx := B.exec
  have hb := B.bytes
  have hr := B.returns
  have ht : ∀ w ∈ wsA, w.before _ s = true := fun w h => atoms_spec (ws := (Cond.code y_Pf_causesOf prog_5_method_7_code 5 (some .int) :: wsA)) B.pre w (List.mem_cons_of_mem _ h)
  have hown : s.vm.findClass "NetUnfolder$Prefix" = some m.cls := findClass_of_methodNamed B.named
  have hlocks := B.notSynchronized
  subst hsz
  have hD := hD0.self (sz := s.heap.size)
  generalize hAe : va_A [(f0, .inr (2, [.int (nI pfc), .ref f1, .ref f2, .ref f3, .ref f4, .ref f5, .int (nI pfe), .ref f6, .ref f7, .ref f8, .ref f9, .ref f10, .int pfu, .int pfw])), (f2, .inl (cI, 60, .inl fmk)), (f8, .inl (cI, 30, .inl fca))] s.heap.size = A at hD ⊢
  have hA : ∀ q : Nat, s.heap.size ≤ q → A q := fun q h => by rw [← hAe]; exact Or.inr h
  have hS : va_S A s.heap s.heap [] := va_S.rf
  have hl := lv_entry ([.ref f0, .long x]) (n := 5) (Nat.le_of_ble_eq_true rfl)
  rw [lg_entry_eq]
  generalize (lg_sl ([.ref f0, .long x]) ++ List.replicate (5 - (lg_sl ([.ref f0, .long x])).length) Slot.unset).toArray = ls at hl ⊢
  replace hl : lv_has ls 5 [(0, .ref f0), (1, .long x)] := hl
  refine W_Q (fun Q hQ => ?_)
  refine lv_iconst (v := 0) hx hb d_Pf_causesOf_0 (by decide) ?_
  refine lv_istore_n (lv' := [(3, .int 0), (0, .ref f0), (1, .long x)]) hx hb d_Pf_causesOf_1 rfl hl (by decide) rfl (fun ls hln => ?_)
  replace hl : lv_has ls 5 [(3, .int 0), (0, .ref f0), (1, .long x)] := hln
  clear hln
  refine lv_iconst (v := 0) hx hb d_Pf_causesOf_2 (by decide) ?_
  refine lv_istore (lv' := [(4, .int 0), (3, .int 0), (0, .ref f0), (1, .long x)]) hx hb d_Pf_causesOf_3 hl (by decide) rfl (fun ls hln => ?_)
  replace hl : lv_has ls 5 [(4, .int 0), (3, .int 0), (0, .ref f0), (1, .long x)] := hln
  clear hln
  have hloop1 : ∀ (n5 : Nat) (v : Int32) (i : Nat) (hi : i ≤ pfc) (H : Heap) (locs : List Loc) (ls : Array Slot) (hl : lv_has ls 5 [(0, .ref f0), (1, .long x), (3, .int v), (4, .int (nI i))]) (hP : va_P (dC, dI) clA [(f0, .inr (2, [.int (nI pfc), .ref f1, .ref f2, .ref f3, .ref f4, .ref f5, .int (nI pfe), .ref f6, .ref f7, .ref f8, .ref f9, .ref f10, .int pfu, .int pfw])), (f2, .inl (cI, 60, .inl fmk)), (f8, .inl (cI, 30, .inl fca))] H) (hD : va_D A [(f0, .inr (2, [.int (nI pfc), .ref f1, .ref f2, .ref f3, .ref f4, .ref f5, .int (nI pfe), .ref f6, .ref f7, .ref f8, .ref f9, .ref f10, .int pfu, .int pfw])), (f2, .inl (cI, 60, .inl fmk)), (f8, .inl (cI, 30, .inl fca))]) (hS : va_S A s.heap H locs) (hm5 : pfc - i < n5), W p l e (headSpec (Cond.code y_Pf_causesOf prog_5_method_7_code 5 (some .int) :: wsA) { frames := 1, cells := 0, slots := 0, locals := 22 }).room s m ([.ref f0, .long x] : List Value).toArray below meth c H locs 0 0 Q (F0 m 5 ls []) := by
    clear hl hP hD hS
    intro n5
    induction n5 with
    | zero => intro v i hi H locs ls hl hP hD hS hm; exact absurd hm (Nat.not_lt_zero _)
    | succ n5 hloop1_ih =>
      intro v i hi H locs ls hl hP hD hS hm5
      refine lv_iload hx hb d_Pf_causesOf_5 (lv_at hl 3 rfl) ?_
      refine lv_aload_n hx hb d_Pf_causesOf_7 rfl (lv_at hl 0 rfl) ?_
      refine va_get (D := (dC, dI)) (ci := 2) (v := .int (nI pfc)) (C := "NetUnfolder$Prefix") (T := T_Pf) (N := 14) hx hb ht in_Pf hown hK hP 0 rfl rfl 0 (by decide) (ht _ wd_1_62) (fun _ h9 => h9) rfl d_Pf_causesOf_8 ?_
      refine lv_icmp_ge (tgt := 55) hx hb d_Pf_causesOf_11 (by decide) (fun hb2 => ?_) (fun hb2 => ?_)
      · skip
        replace hb2 := cv_le (a := pfc) (b := i) (by omega) (by omega) hb2
        refine lv_iload_n hx hb d_Pf_causesOf_55 rfl (lv_at hl 2 rfl) ?_
        have hP9 := hP.sub (ws' := [(f0, .inr (2, [.int (nI pfc), .ref f1, .ref f2, .ref f3, .ref f4, .ref f5, .int (nI pfe), .ref f6, .ref f7, .ref f8, .ref f9, .ref f10, .int pfu, .int pfw])), (f2, .inl (cI, 60, .inl fmk)), (f8, .inl (cI, 30, .inl fca))]) [0, 1, 2] rfl
        have hD9 := hD.sub (ws' := [(f0, .inr (2, [.int (nI pfc), .ref f1, .ref f2, .ref f3, .ref f4, .ref f5, .int (nI pfe), .ref f6, .ref f7, .ref f8, .ref f9, .ref f10, .int pfu, .int pfw])), (f2, .inl (cI, 60, .inl fmk)), (f8, .inl (cI, 30, .inl fca))]) [0, 1, 2] (by decide) rfl
        subst hQ
        exact W.iret (v := v) hx hb hr (fun t9 ht9 hW => ⟨⟨v, (), rfl, trivial, by rw [ht9]; exact hP9, hD9⟩, hS.F ht9⟩) hS.2.2 d_Pf_causesOf_56
      · skip
        replace hb2 := cv_nle (a := pfc) (b := i) (by omega) (by omega) hb2
        refine lv_lload_n hx hb d_Pf_causesOf_14 rfl (lv_at hl 1 rfl) ?_
        refine lv_iload hx hb d_Pf_causesOf_15 (lv_at hl 3 rfl) ?_
        have hPc : va_P (dC, dI) clA [] _ := pu_P (H := H)
        have hDc : va_D (fun _ => True) [] := pu_D
        have hFc := pu_free hS hA
        refine va_calli (va_runSN (As := [.long x, .int (nI i)]) (rest := []) ⟨hx, hb, hml, hown, ht⟩ (c_NU_has l dC dI cI cL cZ _ x i (by first | assumption | omega | trivial | exact AllLt.zero | exact AllN.zero | exact Or.inl rfl | exact Or.inr rfl)) ⟨va_cnB 2 ht (goodA wd_2_102) rfl rfl rfl hN.2.2.2.2.1 (ht _ wd_1_1) (by decide +kernel) ⟨Nat.le_of_ble_eq_true rfl, Nat.le_of_ble_eq_true rfl⟩, ht _ wd_2_101, trivial⟩ ⟨fun a U g mk q => by obtain ⟨q0, q1, qP, qK, qD, qN⟩ := q; exact ⟨q0, q1, qP, va_K.moved (u := U) (U := U.calling g mk a) (Vm.Alike.refl U.vm) qK, qD, NwA.same (u := U) rfl qN⟩, fun U hU hW => ⟨rfl, by rw [hU], by rw [hU]; exact hPc, va_K.moved hW.alike hK, hDc.weaken (fun _ _ _ _ => trivial), NwA.warm hW hN⟩⟩ rfl rfl hl.1 rfl (lv_room (Nat.le_of_ble_eq_true rfl)) d_Pf_causesOf_17 ⟨Nat.le_of_ble_eq_true rfl, Nat.le_of_ble_eq_true rfl⟩) hS (fun q _ h => hFc q h) hFc (fun r5 u9 t9 H3 locs ht9 hvm hw4 hB hz1 hk1 hSn => ?_)
        replace hP : va_P (dC, dI) clA [(f0, .inr (2, [.int (nI pfc), .ref f1, .ref f2, .ref f3, .ref f4, .ref f5, .int (nI pfe), .ref f6, .ref f7, .ref f8, .ref f9, .ref f10, .int pfu, .int pfw])), (f2, .inl (cI, 60, .inl fmk)), (f8, .inl (cI, 30, .inl fca))] H3 := pu_keep hP hk1
        replace hS := hSn
        clear hSn hPc hDc hFc hk1 hz1 ht9 hvm hB
        refine W.cs (cells' := 0) (slots' := 0) rfl rfl ?_
        subst hw4
        refine lv_if_eq (tgt := 49) hx hb d_Pf_causesOf_20 (by decide) (fun hb6 => ?_) (fun hb6 => ?_)
        · skip
          refine lv_iinc (k := 3) (v := nI (i + 1)) (lv' := [(4, .int (nI (i + 1))), (0, .ref f0), (1, .long x), (3, .int v)]) hx hb d_Pf_causesOf_49 hl rfl (nI_1 _) (by decide) rfl (fun ls hln => ?_)
          replace hl : lv_has ls 5 [(4, .int (nI (i + 1))), (0, .ref f0), (1, .long x), (3, .int v)] := hln
          clear hln
          refine lv_goto (tgt := 5) hx hb d_Pf_causesOf_52 (by decide) ?_
          exact hloop1_ih v (i + 1) (by first | assumption | omega | trivial | exact AllLt.zero | exact AllN.zero | exact Or.inl rfl | exact Or.inr rfl) _ _ ls (lv_sub hl [1, 2, 3, 0] rfl) (hP.sub [0, 1, 2] rfl) (hD.sub [0, 1, 2] (by decide) rfl) hS (by omega)
        · skip
          refine lv_aload_n hx hb d_Pf_causesOf_23 rfl (lv_at hl 0 rfl) ?_
          refine va_get (D := (dC, dI)) (ci := 2) (v := .ref f2) (C := "NetUnfolder$Prefix") (T := T_Pf) (N := 14) hx hb ht in_Pf hown hK hP 0 rfl rfl 2 (by decide) (ht _ wd_1_70) (fun _ h9 => h9) rfl d_Pf_causesOf_24 ?_
          refine lv_iload hx hb d_Pf_causesOf_27 (lv_at hl 3 rfl) ?_
          refine na_iald (k := i) hx hb hK hP 1 0 rfl rfl (by omega) (by decide) d_Pf_causesOf_29 ?_
          refine lv_iconst (v := (-1)) hx hb d_Pf_causesOf_30 (by decide) ?_
          refine lv_icmp_eq (tgt := 49) hx hb d_Pf_causesOf_31 (by decide) (fun hb7 => ?_) (fun hb7 => ?_)
          · skip
            refine lv_iinc (k := 3) (v := nI (i + 1)) (lv' := [(4, .int (nI (i + 1))), (0, .ref f0), (1, .long x), (3, .int v)]) hx hb d_Pf_causesOf_49 hl rfl (nI_1 _) (by decide) rfl (fun ls hln => ?_)
            replace hl : lv_has ls 5 [(4, .int (nI (i + 1))), (0, .ref f0), (1, .long x), (3, .int v)] := hln
            clear hln
            refine lv_goto (tgt := 5) hx hb d_Pf_causesOf_52 (by decide) ?_
            exact hloop1_ih v (i + 1) (by first | assumption | omega | trivial | exact AllLt.zero | exact AllN.zero | exact Or.inl rfl | exact Or.inr rfl) _ _ ls (lv_sub hl [1, 2, 3, 0] rfl) (hP.sub [0, 1, 2] rfl) (hD.sub [0, 1, 2] (by decide) rfl) hS (by omega)
          · skip
            refine lv_iload_n hx hb d_Pf_causesOf_34 rfl (lv_at hl 2 rfl) ?_
            refine lv_aload_n hx hb d_Pf_causesOf_35 rfl (lv_at hl 0 rfl) ?_
            refine va_get (D := (dC, dI)) (ci := 2) (v := .ref f8) (C := "NetUnfolder$Prefix") (T := T_Pf) (N := 14) hx hb ht in_Pf hown hK hP 0 rfl rfl 9 (by decide) (ht _ wd_1_92) (fun _ h9 => h9) rfl d_Pf_causesOf_36 ?_
            refine lv_aload_n hx hb d_Pf_causesOf_39 rfl (lv_at hl 0 rfl) ?_
            refine va_get (D := (dC, dI)) (ci := 2) (v := .ref f2) (C := "NetUnfolder$Prefix") (T := T_Pf) (N := 14) hx hb ht in_Pf hown hK hP 0 rfl rfl 2 (by decide) (ht _ wd_1_70) (fun _ h9 => h9) rfl d_Pf_causesOf_40 ?_
            refine lv_iload hx hb d_Pf_causesOf_43 (lv_at hl 3 rfl) ?_
            refine na_iald (k := i) hx hb hK hP 1 0 rfl rfl (by omega) (by decide) d_Pf_causesOf_45 ?_
            obtain ⟨q8, hq9, eq10⟩ := (hmk _ (by assumption)).resolve_left hb7
            refine ci_i (y := nI q8) eq10 ?_
            refine na_iald (k := q8) hx hb hK hP 2 0 rfl rfl (by omega) (by decide) d_Pf_causesOf_46 ?_
            refine lv_ior hx hb d_Pf_causesOf_47 ?_
            refine lv_istore_n (lv' := [(3, .int (v ||| (fca q8))), (0, .ref f0), (1, .long x), (4, .int (nI i))]) hx hb d_Pf_causesOf_48 rfl hl (by decide) rfl (fun ls hln => ?_)
            replace hl : lv_has ls 5 [(3, .int (v ||| (fca q8))), (0, .ref f0), (1, .long x), (4, .int (nI i))] := hln
            clear hln
            refine lv_iinc (k := 3) (v := nI (i + 1)) (lv' := [(4, .int (nI (i + 1))), (3, .int (v ||| (fca q8))), (0, .ref f0), (1, .long x)]) hx hb d_Pf_causesOf_49 hl rfl (nI_1 _) (by decide) rfl (fun ls hln => ?_)
            replace hl : lv_has ls 5 [(4, .int (nI (i + 1))), (3, .int (v ||| (fca q8))), (0, .ref f0), (1, .long x)] := hln
            clear hln
            refine lv_goto (tgt := 5) hx hb d_Pf_causesOf_52 (by decide) ?_
            exact hloop1_ih (v ||| (fca q8)) (i + 1) (by first | assumption | omega | trivial | exact AllLt.zero | exact AllN.zero | exact Or.inl rfl | exact Or.inr rfl) _ _ ls (lv_sub hl [2, 3, 1, 0] rfl) (hP.sub [0, 1, 2] rfl) (hD.sub [0, 1, 2] (by decide) rfl) hS (by omega)
  exact hloop1 ((pfc - 0) + 1) 0 0 (by first | assumption | omega | trivial | exact AllLt.zero | exact AllN.zero | exact Or.inl rfl | exact Or.inr rfl) _ _ ls (lv_sub hl [2, 3, 1, 0] rfl) hP hD hS (Nat.lt_succ_self _)
