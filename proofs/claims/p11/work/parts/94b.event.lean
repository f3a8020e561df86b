set_option maxHeartbeats 4000000 in
set_option maxRecDepth 100000 in
theorem e_Pf_isCutOff (l : Launch) (dC : Nat → ClassId) (dI : Nat → Nat → Nat) (cI cL cZ : ClassId) (sz : Nat) (f0 : Nat) (f1 : Nat) (f2 : Nat) (f3 : Nat) (f4 : Nat) (f5 : Nat) (f6 : Nat) (f7 : Nat) (f8 : Nat) (f9 : Nat) (f10 : Nat) (pfc : Nat) (pfe : Nat) (pfu : Int32) (pfw : Int32) (k : Nat) (hk : k < 64) : Met l y_Pf_isCutOff (Cond.code y_Pf_isCutOff prog_5_method_3_code 2 (some .boolean) :: wsA) { frames := 1, cells := 0, slots := 0, locals := 22 } (va_Pc [.ref f0, .int (nI k)] (fun U => U.heap.size = sz ∧ va_P (dC, dI) clA [(f0, .inr (2, [.int (nI pfc), .ref f1, .ref f2, .ref f3, .ref f4, .ref f5, .int (nI pfe), .ref f6, .ref f7, .ref f8, .ref f9, .ref f10, .int pfu, .int pfw]))] U.heap ∧ va_K (dC, dI) clA [(cI, .int), (cL, .long), (cZ, .boolean)] U ∧ va_D (fun _ => True) [(f0, .inr (2, [.int (nI pfc), .ref f1, .ref f2, .ref f3, .ref f4, .ref f5, .int (nI pfe), .ref f6, .ref f7, .ref f8, .ref f9, .ref f10, .int pfu, .int pfw]))] ∧ NwA U)) (va_Qi (fun r (_ : Unit) => r = hasv (Int32.toInt64 pfu) k) (fun _ t => va_P (dC, dI) clA [(f0, .inr (2, [.int (nI pfc), .ref f1, .ref f2, .ref f3, .ref f4, .ref f5, .int (nI pfe), .ref f6, .ref f7, .ref f8, .ref f9, .ref f10, .int pfu, .int pfw]))] t.heap ∧ va_D (va_A [(f0, .inr (2, [.int (nI pfc), .ref f1, .ref f2, .ref f3, .ref f4, .ref f5, .int (nI pfe), .ref f6, .ref f7, .ref f8, .ref f9, .ref f10, .int pfu, .int pfw]))] sz) [(f0, .inr (2, [.int (nI pfc), .ref f1, .ref f2, .ref f3, .ref f4, .ref f5, .int (nI pfe), .ref f6, .ref f7, .ref f8, .ref f9, .ref f10, .int pfu, .int pfw]))]) (va_A [(f0, .inr (2, [.int (nI pfc), .ref f1, .ref f2, .ref f3, .ref f4, .ref f5, .int (nI pfe), .ref f6, .ref f7, .ref f8, .ref f9, .ref f10, .int pfu, .int pfw]))] sz)) 0 0 (va_A [(f0, .inr (2, [.int (nI pfc), .ref f1, .ref f2, .ref f3, .ref f4, .ref f5, .int (nI pfe), .ref f6, .ref f7, .ref f8, .ref f9, .ref f10, .int pfu, .int pfw]))] sz) := by
  refine Met.ofW (cc := prog_5_method_3_code) (maxL := 2) (ret := (some .boolean)) (by decide) rfl ?_
  intro p e s m args below meth c s₁ B hml hv
  obtain ⟨rfl, hsz, hP, hK, hD0, hN⟩ := hv
  have hx := B.exec
  have hb := B.bytes
  have hr := B.returns
  have ht : ∀ w ∈ wsA, w.before _ s = true := fun w h => atoms_spec (ws := (Cond.code y_Pf_isCutOff prog_5_method_3_code 2 (some .boolean) :: wsA)) B.pre w (List.mem_cons_of_mem _ h)
  have hown : s.vm.findClass "NetUnfolder$Prefix" = some m.cls := findClass_of_methodNamed B.named
  have hlocks := B.notSynchronized
  subst hsz
  have hD := hD0.self (sz := s.heap.size)
  generalize hAe : va_A [(f0, .inr (2, [.int (nI pfc), .ref f1, .ref f2, .ref f3, .ref f4, .ref f5, .int (nI pfe), .ref f6, .ref f7, .ref f8, .ref f9, .ref f10, .int pfu, .int pfw]))] s.heap.size = A at hD ⊢
  have hA : ∀ q : Nat, s.heap.size ≤ q → A q := fun q h => by rw [← hAe]; exact Or.inr h
  have hS : va_S A s.heap s.heap [] := va_S.rf
  have hl := lv_entry ([.ref f0, .int (nI k)]) (n := 2) (Nat.le_of_ble_eq_true rfl)
  rw [lg_entry_eq]
  generalize (lg_sl ([.ref f0, .int (nI k)]) ++ List.replicate (2 - (lg_sl ([.ref f0, .int (nI k)])).length) Slot.unset).toArray = ls at hl ⊢
  replace hl : lv_has ls 2 [(0, .ref f0), (1, .int (nI k))] := hl
  refine W_Q (fun Q hQ => ?_)
  refine lv_aload_n hx hb d_Pf_isCutOff_0 rfl (lv_at hl 0 rfl) ?_
  refine va_get (D := (dC, dI)) (ci := 2) (v := .int pfu) (C := "NetUnfolder$Prefix") (T := T_Pf) (N := 14) hx hb ht in_Pf hown hK hP 0 rfl rfl 12 (by decide) (ht _ wd_1_100) (fun _ h9 => h9) rfl d_Pf_isCutOff_1 ?_
  refine lv_i2l (v := Int32.toInt64 pfu) hx hb d_Pf_isCutOff_4 rfl ?_
  refine lv_iload_n hx hb d_Pf_isCutOff_5 rfl (lv_at hl 1 rfl) ?_
  have hPc : va_P (dC, dI) clA [] _ := pu_P (H := s.heap)
  have hDc : va_D (fun _ => True) [] := pu_D
  have hFc := pu_free hS hA
  refine va_calli (va_runSN (As := [.long (Int32.toInt64 pfu), .int (nI k)]) (rest := []) ⟨hx, hb, hml, hown, ht⟩ (c_NU_has l dC dI cI cL cZ _ (Int32.toInt64 pfu) k (by first | assumption | omega | trivial | exact AllLt.zero | exact AllN.zero | exact AllM.zero | exact Or.inl rfl | exact Or.inr rfl)) ⟨va_cnB 2 ht (goodA wd_2_102) rfl rfl rfl hN.2.2.2.2.1 (ht _ wd_1_1) (by decide +kernel) ⟨Nat.le_of_ble_eq_true rfl, Nat.le_of_ble_eq_true rfl⟩, ht _ wd_2_101, trivial⟩ ⟨fun a U g mk q => by obtain ⟨q0, q1, qP, qK, qD, qN⟩ := q; exact ⟨q0, q1, qP, va_K.moved (u := U) (U := U.calling g mk a) (Vm.Alike.refl U.vm) qK, qD, NwA.same (u := U) rfl qN⟩, fun U hU hW => ⟨rfl, by rw [hU], by rw [hU]; exact hPc, va_K.moved hW.alike hK, hDc.weaken (fun _ _ _ _ => trivial), NwA.warm hW hN⟩⟩ rfl rfl hl.1 rfl (lv_room (Nat.le_of_ble_eq_true rfl)) d_Pf_isCutOff_6 ⟨Nat.le_of_ble_eq_true rfl, Nat.le_of_ble_eq_true rfl⟩) hS (fun q _ h => hFc q h) hFc (fun r3 u9 t9 H1 locs ht9 hvm hw2 hB hz1 hk1 hSn => ?_)
  replace hP : va_P (dC, dI) clA [(f0, .inr (2, [.int (nI pfc), .ref f1, .ref f2, .ref f3, .ref f4, .ref f5, .int (nI pfe), .ref f6, .ref f7, .ref f8, .ref f9, .ref f10, .int pfu, .int pfw]))] H1 := pu_keep hP hk1
  replace hS := hSn
  clear hSn hPc hDc hFc hk1 hz1 ht9 hvm hB
  refine W.cs (cells' := 0) (slots' := 0) rfl rfl ?_
  subst hw2
  have h01 := hasv_01 (Int32.toInt64 pfu) k
  have hP9 := hP.sub (ws' := [(f0, .inr (2, [.int (nI pfc), .ref f1, .ref f2, .ref f3, .ref f4, .ref f5, .int (nI pfe), .ref f6, .ref f7, .ref f8, .ref f9, .ref f10, .int pfu, .int pfw]))]) [0] rfl
  have hD9 := hD.sub (ws' := [(f0, .inr (2, [.int (nI pfc), .ref f1, .ref f2, .ref f3, .ref f4, .ref f5, .int (nI pfe), .ref f6, .ref f7, .ref f8, .ref f9, .ref f10, .int pfu, .int pfw]))]) [0] (by decide) rfl
  subst hQ
  exact W.zret (v := hasv (Int32.toInt64 pfu) k) hx hb hr (bz_nar (by assumption)) (fun t9 ht9 hW => ⟨⟨hasv (Int32.toInt64 pfu) k, (), rfl, rfl, by rw [ht9]; exact hP9, hD9⟩, hS.F ht9⟩) hS.2.2 d_Pf_isCutOff_9

set_option maxHeartbeats 4000000 in
set_option maxRecDepth 100000 in
theorem e_NU_event (l : Launch) (dC : Nat → ClassId) (dI : Nat → Nat → Nat) (cI cL cZ : ClassId) (sz : Nat) (x0 : Nat) (u0 : Nat) (n0 : Nat) (w0 : Nat) (f0 : Nat) (f1 : Nat) (f2 : Nat) (f3 : Nat) (f4 : Nat) (f5 : Nat) (f6 : Nat) (f7 : Nat) (f8 : Nat) (f9 : Nat) (f10 : Nat) (pfc : Nat) (pfe : Nat) (pfu : Int32) (pfw : Int32) (ftr : Nat → Int32) (fca : Nat → Int32) (fma : Nat → Int32) (q0 : Nat) (x : Int32) (y : Int32) (hpe : pfe ≤ 30) : Met l y_NU_event (Cond.code y_NU_event prog_1_method_11_code 3 (some .int) :: wsA) { frames := 2, cells := 0, slots := 0, locals := 43 } (va_Pc [.ref x0, .int x, .int y] (fun U => U.heap.size = sz ∧ va_P (dC, dI) clA [(x0, .inr (0, [.ref n0, .ref f0, .ref w0, .ref u0, .ref q0])), (f0, .inr (2, [.int (nI pfc), .ref f1, .ref f2, .ref f3, .ref f4, .ref f5, .int (nI pfe), .ref f6, .ref f7, .ref f8, .ref f9, .ref f10, .int pfu, .int pfw])), (f6, .inl (cI, 30, .inl ftr)), (f8, .inl (cI, 30, .inl fca)), (f9, .inl (cI, 30, .inl fma))] U.heap ∧ va_K (dC, dI) clA [(cI, .int), (cL, .long), (cZ, .boolean)] U ∧ va_D (fun _ => True) [(x0, .inr (0, [.ref n0, .ref f0, .ref w0, .ref u0, .ref q0])), (f0, .inr (2, [.int (nI pfc), .ref f1, .ref f2, .ref f3, .ref f4, .ref f5, .int (nI pfe), .ref f6, .ref f7, .ref f8, .ref f9, .ref f10, .int pfu, .int pfw])), (f6, .inl (cI, 30, .inl ftr)), (f8, .inl (cI, 30, .inl fca)), (f9, .inl (cI, 30, .inl fma))] ∧ NwA U)) (va_Qi (fun r (_ : Unit) => (r = evV pfe ftr (fun j => nI (pc32 (fca j))) fma (fun j => if hasv (Int32.toInt64 pfu) j = 0 then 0 else 1) x y)) (fun _ t => va_P (dC, dI) clA [(x0, .inr (0, [.ref n0, .ref f0, .ref w0, .ref u0, .ref q0])), (f0, .inr (2, [.int (nI pfc), .ref f1, .ref f2, .ref f3, .ref f4, .ref f5, .int (nI pfe), .ref f6, .ref f7, .ref f8, .ref f9, .ref f10, .int pfu, .int pfw])), (f6, .inl (cI, 30, .inl ftr)), (f8, .inl (cI, 30, .inl fca)), (f9, .inl (cI, 30, .inl fma))] t.heap ∧ va_D (va_A [(x0, .inr (0, [.ref n0, .ref f0, .ref w0, .ref u0, .ref q0])), (f0, .inr (2, [.int (nI pfc), .ref f1, .ref f2, .ref f3, .ref f4, .ref f5, .int (nI pfe), .ref f6, .ref f7, .ref f8, .ref f9, .ref f10, .int pfu, .int pfw])), (f6, .inl (cI, 30, .inl ftr)), (f8, .inl (cI, 30, .inl fca)), (f9, .inl (cI, 30, .inl fma))] sz) [(x0, .inr (0, [.ref n0, .ref f0, .ref w0, .ref u0, .ref q0])), (f0, .inr (2, [.int (nI pfc), .ref f1, .ref f2, .ref f3, .ref f4, .ref f5, .int (nI pfe), .ref f6, .ref f7, .ref f8, .ref f9, .ref f10, .int pfu, .int pfw])), (f6, .inl (cI, 30, .inl ftr)), (f8, .inl (cI, 30, .inl fca)), (f9, .inl (cI, 30, .inl fma))]) (va_A [(x0, .inr (0, [.ref n0, .ref f0, .ref w0, .ref u0, .ref q0])), (f0, .inr (2, [.int (nI pfc), .ref f1, .ref f2, .ref f3, .ref f4, .ref f5, .int (nI pfe), .ref f6, .ref f7, .ref f8, .ref f9, .ref f10, .int pfu, .int pfw])), (f6, .inl (cI, 30, .inl ftr)), (f8, .inl (cI, 30, .inl fca)), (f9, .inl (cI, 30, .inl fma))] sz)) 0 0 (va_A [(x0, .inr (0, [.ref n0, .ref f0, .ref w0, .ref u0, .ref q0])), (f0, .inr (2, [.int (nI pfc), .ref f1, .ref f2, .ref f3, .ref f4, .ref f5, .int (nI pfe), .ref f6, .ref f7, .ref f8, .ref f9, .ref f10, .int pfu, .int pfw])), (f6, .inl (cI, 30, .inl ftr)), (f8, .inl (cI, 30, .inl fca)), (f9, .inl (cI, 30, .inl fma))] sz) := by
  refine Met.ofW (cc := prog_1_method_11_code) (maxL := 3) (ret := (some .int)) (by decide) rfl ?_
  intro p e s m args below meth c s₁ B hml hv
  obtain ⟨rfl, hsz, hP, hK, hD0, hN⟩ := hv
  have hx := B.exec
  have hb := B.bytes
  have hr := B.returns
  have ht : ∀ w ∈ wsA, w.before _ s = true := fun w h => atoms_spec (ws := (Cond.code y_NU_event prog_1_method_11_code 3 (some .int) :: wsA)) B.pre w (List.mem_cons_of_mem _ h)
  have hown : s.vm.findClass "NetUnfolder" = some m.cls := findClass_of_methodNamed B.named
  have hlocks := B.notSynchronized
  subst hsz
  have hD := hD0.self (sz := s.heap.size)
  generalize hAe : va_A [(x0, .inr (0, [.ref n0, .ref f0, .ref w0, .ref u0, .ref q0])), (f0, .inr (2, [.int (nI pfc), .ref f1, .ref f2, .ref f3, .ref f4, .ref f5, .int (nI pfe), .ref f6, .ref f7, .ref f8, .ref f9, .ref f10, .int pfu, .int pfw])), (f6, .inl (cI, 30, .inl ftr)), (f8, .inl (cI, 30, .inl fca)), (f9, .inl (cI, 30, .inl fma))] s.heap.size = A at hD ⊢
  have hA : ∀ q : Nat, s.heap.size ≤ q → A q := fun q h => by rw [← hAe]; exact Or.inr h
  have hS : va_S A s.heap s.heap [] := va_S.rf
  have hl := lv_entry ([.ref x0, .int x, .int y]) (n := 3) (Nat.le_of_ble_eq_true rfl)
  rw [lg_entry_eq]
  generalize (lg_sl ([.ref x0, .int x, .int y]) ++ List.replicate (3 - (lg_sl ([.ref x0, .int x, .int y])).length) Slot.unset).toArray = ls at hl ⊢
  replace hl : lv_has ls 3 [(0, .ref x0), (1, .int x), (2, .int y)] := hl
  refine W_Q (fun Q hQ => ?_)
  refine lv_iload_n hx hb d_NU_event_0 rfl (lv_at hl 1 rfl) ?_
  refine lv_if_lt (tgt := 15) hx hb d_NU_event_1 (by decide) (fun hb1 => ?_) (fun hb1 => ?_)
  · skip
    refine lv_iconst (v := (-1)) hx hb d_NU_event_15 (by decide) ?_
    have hP9 := hP.sub (ws' := [(x0, .inr (0, [.ref n0, .ref f0, .ref w0, .ref u0, .ref q0])), (f0, .inr (2, [.int (nI pfc), .ref f1, .ref f2, .ref f3, .ref f4, .ref f5, .int (nI pfe), .ref f6, .ref f7, .ref f8, .ref f9, .ref f10, .int pfu, .int pfw])), (f6, .inl (cI, 30, .inl ftr)), (f8, .inl (cI, 30, .inl fca)), (f9, .inl (cI, 30, .inl fma))]) [0, 1, 2, 3, 4] rfl
    have hD9 := hD.sub (ws' := [(x0, .inr (0, [.ref n0, .ref f0, .ref w0, .ref u0, .ref q0])), (f0, .inr (2, [.int (nI pfc), .ref f1, .ref f2, .ref f3, .ref f4, .ref f5, .int (nI pfe), .ref f6, .ref f7, .ref f8, .ref f9, .ref f10, .int pfu, .int pfw])), (f6, .inl (cI, 30, .inl ftr)), (f8, .inl (cI, 30, .inl fca)), (f9, .inl (cI, 30, .inl fma))]) [0, 1, 2, 3, 4] (by decide) rfl
    subst hQ
    exact W.iret (v := (-1)) hx hb hr (fun t9 ht9 hW => ⟨⟨(-1), (), rfl, (evV_out (Or.inl hb1)), by rw [ht9]; exact hP9, hD9⟩, hS.F ht9⟩) hS.2.2 d_NU_event_16
  · skip
    refine lv_iload_n hx hb d_NU_event_4 rfl (lv_at hl 1 rfl) ?_
    refine lv_aload_n hx hb d_NU_event_5 rfl (lv_at hl 0 rfl) ?_
    refine va_get (D := (dC, dI)) (ci := 0) (v := .ref f0) (C := "NetUnfolder") (T := T_NU) (N := 5) hx hb ht in_NU hown hK hP 0 rfl rfl 1 (by decide) (ht _ wd_2_37) (fun _ h9 => h9) rfl d_NU_event_6 ?_
    refine va_get (D := (dC, dI)) (ci := 2) (v := .int (nI pfe)) (C := "NetUnfolder$Prefix") (T := T_Pf) (N := 14) hx hb ht in_Pf hown hK hP 1 rfl rfl 6 (by decide) (ht _ wd_1_85) (fun _ h9 => h9) rfl d_NU_event_9 ?_
    refine lv_icmp_lt (tgt := 17) hx hb d_NU_event_12 (by decide) (fun hb2 => ?_) (fun hb2 => ?_)
    · skip
      obtain ⟨j3, j3_l, rfl⟩ := ix_of (by omega) hb1 hb2
      refine lv_iload_n hx hb d_NU_event_17 rfl (lv_at hl 2 rfl) ?_
      by_cases hv4 : y = 0
      · refine lv_tableIn (off := 30) (tgt := 48) hx hb d_NU_event_18 (by rw [hv4]; decide) (by rw [hv4]; decide) (by rw [hv4]; decide) (by decide) ?_
        refine lv_aload_n hx hb d_NU_event_48 rfl (lv_at hl 0 rfl) ?_
        refine va_get (D := (dC, dI)) (ci := 0) (v := .ref f0) (C := "NetUnfolder") (T := T_NU) (N := 5) hx hb ht in_NU hown hK hP 0 rfl rfl 1 (by decide) (ht _ wd_2_37) (fun _ h9 => h9) rfl d_NU_event_49 ?_
        refine va_get (D := (dC, dI)) (ci := 2) (v := .ref f6) (C := "NetUnfolder$Prefix") (T := T_Pf) (N := 14) hx hb ht in_Pf hown hK hP 1 rfl rfl 7 (by decide) (ht _ wd_1_89) (fun _ h9 => h9) rfl d_NU_event_52 ?_
        refine lv_iload_n hx hb d_NU_event_55 rfl (lv_at hl 1 rfl) ?_
        refine na_iald (k := j3) hx hb hK hP 2 0 rfl rfl (by omega) (by decide) d_NU_event_56 ?_
        have hP9 := hP.sub (ws' := [(x0, .inr (0, [.ref n0, .ref f0, .ref w0, .ref u0, .ref q0])), (f0, .inr (2, [.int (nI pfc), .ref f1, .ref f2, .ref f3, .ref f4, .ref f5, .int (nI pfe), .ref f6, .ref f7, .ref f8, .ref f9, .ref f10, .int pfu, .int pfw])), (f6, .inl (cI, 30, .inl ftr)), (f8, .inl (cI, 30, .inl fca)), (f9, .inl (cI, 30, .inl fma))]) [0, 1, 2, 3, 4] rfl
        have hD9 := hD.sub (ws' := [(x0, .inr (0, [.ref n0, .ref f0, .ref w0, .ref u0, .ref q0])), (f0, .inr (2, [.int (nI pfc), .ref f1, .ref f2, .ref f3, .ref f4, .ref f5, .int (nI pfe), .ref f6, .ref f7, .ref f8, .ref f9, .ref f10, .int pfu, .int pfw])), (f6, .inl (cI, 30, .inl ftr)), (f8, .inl (cI, 30, .inl fca)), (f9, .inl (cI, 30, .inl fma))]) [0, 1, 2, 3, 4] (by decide) rfl
        subst hQ
        exact W.iret (v := ftr j3) hx hb hr (fun t9 ht9 hW => ⟨⟨ftr j3, (), rfl, (evV_0 j3_l (by omega) (by assumption) rfl), by rw [ht9]; exact hP9, hD9⟩, hS.F ht9⟩) hS.2.2 d_NU_event_57
      by_cases hv5 : y = 1
      · refine lv_tableIn (off := 40) (tgt := 58) hx hb d_NU_event_18 (by rw [hv5]; decide) (by rw [hv5]; decide) (by rw [hv5]; decide) (by decide) ?_
        refine lv_aload_n hx hb d_NU_event_58 rfl (lv_at hl 0 rfl) ?_
        refine va_get (D := (dC, dI)) (ci := 0) (v := .ref f0) (C := "NetUnfolder") (T := T_NU) (N := 5) hx hb ht in_NU hown hK hP 0 rfl rfl 1 (by decide) (ht _ wd_2_37) (fun _ h9 => h9) rfl d_NU_event_59 ?_
        refine va_get (D := (dC, dI)) (ci := 2) (v := .ref f8) (C := "NetUnfolder$Prefix") (T := T_Pf) (N := 14) hx hb ht in_Pf hown hK hP 1 rfl rfl 9 (by decide) (ht _ wd_1_94) (fun _ h9 => h9) rfl d_NU_event_62 ?_
        refine lv_iload_n hx hb d_NU_event_65 rfl (lv_at hl 1 rfl) ?_
        refine na_iald (k := j3) hx hb hK hP 3 0 rfl rfl (by omega) (by decide) d_NU_event_66 ?_
        have hPc : va_P (dC, dI) clA [] _ := pu_P (H := s.heap)
        have hDc : va_D (fun _ => True) [] := pu_D
        have hFc := pu_free hS hA
        refine va_calli (va_runS (As := [.int (fca j3)]) (rest := []) ⟨hx, hb, hml, hown, ht⟩ (e_Ig_bitCount l dC dI cI cL cZ _ (fca j3) ) (va_cwS 1 ht (good_S wd_2_206 wd_2_125 wd_1_17 wd_2_126) rfl rfl rfl (by decide +kernel) ⟨Nat.le_of_ble_eq_true rfl, Nat.le_of_ble_eq_true rfl⟩) ⟨fun a U g mk q => by obtain ⟨q0, q1, qP, qK, qD, qN⟩ := q; exact ⟨q0, q1, qP, va_K.moved (u := U) (U := U.calling g mk a) (Vm.Alike.refl U.vm) qK, qD, NwA.same (u := U) rfl qN⟩, fun U hU hW => ⟨rfl, by rw [hU], by rw [hU]; exact hPc, va_K.moved hW.alike hK, hDc.weaken (fun _ _ _ _ => trivial), NwA.warm hW hN⟩⟩ rfl rfl hl.1 rfl (lv_room (Nat.le_of_ble_eq_true rfl)) d_NU_event_67 ⟨Nat.le_of_ble_eq_true rfl, Nat.le_of_ble_eq_true rfl⟩) hS (fun q _ h => hFc q h) hFc (fun r8 u9 t9 H6 locs ht9 hvm hw7 hB hz1 hk1 hSn => ?_)
        replace hP : va_P (dC, dI) clA [(x0, .inr (0, [.ref n0, .ref f0, .ref w0, .ref u0, .ref q0])), (f0, .inr (2, [.int (nI pfc), .ref f1, .ref f2, .ref f3, .ref f4, .ref f5, .int (nI pfe), .ref f6, .ref f7, .ref f8, .ref f9, .ref f10, .int pfu, .int pfw])), (f6, .inl (cI, 30, .inl ftr)), (f8, .inl (cI, 30, .inl fca)), (f9, .inl (cI, 30, .inl fma))] H6 := pu_keep hP hk1
        replace hS := hSn
        clear hSn hPc hDc hFc hk1 hz1 ht9 hvm hB
        refine W.cs (cells' := 0) (slots' := 0) rfl rfl ?_
        subst hw7
        have hP9 := hP.sub (ws' := [(x0, .inr (0, [.ref n0, .ref f0, .ref w0, .ref u0, .ref q0])), (f0, .inr (2, [.int (nI pfc), .ref f1, .ref f2, .ref f3, .ref f4, .ref f5, .int (nI pfe), .ref f6, .ref f7, .ref f8, .ref f9, .ref f10, .int pfu, .int pfw])), (f6, .inl (cI, 30, .inl ftr)), (f8, .inl (cI, 30, .inl fca)), (f9, .inl (cI, 30, .inl fma))]) [0, 1, 2, 3, 4] rfl
        have hD9 := hD.sub (ws' := [(x0, .inr (0, [.ref n0, .ref f0, .ref w0, .ref u0, .ref q0])), (f0, .inr (2, [.int (nI pfc), .ref f1, .ref f2, .ref f3, .ref f4, .ref f5, .int (nI pfe), .ref f6, .ref f7, .ref f8, .ref f9, .ref f10, .int pfu, .int pfw])), (f6, .inl (cI, 30, .inl ftr)), (f8, .inl (cI, 30, .inl fca)), (f9, .inl (cI, 30, .inl fma))]) [0, 1, 2, 3, 4] (by decide) rfl
        subst hQ
        exact W.iret (v := nI (pc32 (fca j3))) hx hb hr (fun t9 ht9 hW => ⟨⟨nI (pc32 (fca j3)), (), rfl, (evV_1 j3_l (by omega) (by assumption) rfl), by rw [ht9]; exact hP9, hD9⟩, hS.F ht9⟩) hS.2.2 d_NU_event_70
      by_cases hv9 : y = 2
      · refine lv_tableIn (off := 53) (tgt := 71) hx hb d_NU_event_18 (by rw [hv9]; decide) (by rw [hv9]; decide) (by rw [hv9]; decide) (by decide) ?_
        refine lv_aload_n hx hb d_NU_event_71 rfl (lv_at hl 0 rfl) ?_
        refine va_get (D := (dC, dI)) (ci := 0) (v := .ref f0) (C := "NetUnfolder") (T := T_NU) (N := 5) hx hb ht in_NU hown hK hP 0 rfl rfl 1 (by decide) (ht _ wd_2_37) (fun _ h9 => h9) rfl d_NU_event_72 ?_
        refine va_get (D := (dC, dI)) (ci := 2) (v := .ref f9) (C := "NetUnfolder$Prefix") (T := T_Pf) (N := 14) hx hb ht in_Pf hown hK hP 1 rfl rfl 10 (by decide) (ht _ wd_1_97) (fun _ h9 => h9) rfl d_NU_event_75 ?_
        refine lv_iload_n hx hb d_NU_event_78 rfl (lv_at hl 1 rfl) ?_
        refine na_iald (k := j3) hx hb hK hP 4 0 rfl rfl (by omega) (by decide) d_NU_event_79 ?_
        have hP9 := hP.sub (ws' := [(x0, .inr (0, [.ref n0, .ref f0, .ref w0, .ref u0, .ref q0])), (f0, .inr (2, [.int (nI pfc), .ref f1, .ref f2, .ref f3, .ref f4, .ref f5, .int (nI pfe), .ref f6, .ref f7, .ref f8, .ref f9, .ref f10, .int pfu, .int pfw])), (f6, .inl (cI, 30, .inl ftr)), (f8, .inl (cI, 30, .inl fca)), (f9, .inl (cI, 30, .inl fma))]) [0, 1, 2, 3, 4] rfl
        have hD9 := hD.sub (ws' := [(x0, .inr (0, [.ref n0, .ref f0, .ref w0, .ref u0, .ref q0])), (f0, .inr (2, [.int (nI pfc), .ref f1, .ref f2, .ref f3, .ref f4, .ref f5, .int (nI pfe), .ref f6, .ref f7, .ref f8, .ref f9, .ref f10, .int pfu, .int pfw])), (f6, .inl (cI, 30, .inl ftr)), (f8, .inl (cI, 30, .inl fca)), (f9, .inl (cI, 30, .inl fma))]) [0, 1, 2, 3, 4] (by decide) rfl
        subst hQ
        exact W.iret (v := fma j3) hx hb hr (fun t9 ht9 hW => ⟨⟨fma j3, (), rfl, (evV_2 j3_l (by omega) (by assumption) rfl), by rw [ht9]; exact hP9, hD9⟩, hS.F ht9⟩) hS.2.2 d_NU_event_80
      by_cases hv10 : y = 3
      · refine lv_tableIn (off := 63) (tgt := 81) hx hb d_NU_event_18 (by rw [hv10]; decide) (by rw [hv10]; decide) (by rw [hv10]; decide) (by decide) ?_
        refine lv_aload_n hx hb d_NU_event_81 rfl (lv_at hl 0 rfl) ?_
        refine va_get (D := (dC, dI)) (ci := 0) (v := .ref f0) (C := "NetUnfolder") (T := T_NU) (N := 5) hx hb ht in_NU hown hK hP 0 rfl rfl 1 (by decide) (ht _ wd_2_37) (fun _ h9 => h9) rfl d_NU_event_82 ?_
        refine lv_iload_n hx hb d_NU_event_85 rfl (lv_at hl 1 rfl) ?_
        have hPc := hP.sub (ws' := [(f0, .inr (2, [.int (nI pfc), .ref f1, .ref f2, .ref f3, .ref f4, .ref f5, .int (nI pfe), .ref f6, .ref f7, .ref f8, .ref f9, .ref f10, .int pfu, .int pfw]))]) [1] rfl
        have hDc := hD.sub (ws' := [(f0, .inr (2, [.int (nI pfc), .ref f1, .ref f2, .ref f3, .ref f4, .ref f5, .int (nI pfe), .ref f6, .ref f7, .ref f8, .ref f9, .ref f10, .int pfu, .int pfw]))]) [1] (by decide) rfl
        have hFc := va_free (wc := [(f0, .inr (2, [.int (nI pfc), .ref f1, .ref f2, .ref f3, .ref f4, .ref f5, .int (nI pfe), .ref f6, .ref f7, .ref f8, .ref f9, .ref f10, .int pfu, .int pfw]))]) hD hS hA [1] rfl
        refine va_calli (va_runV (C := "NetUnfolder$Prefix") (As := [.int (nI j3)]) (rest := []) ⟨hx, hb, hml, hown, ht⟩ (e_Pf_isCutOff l dC dI cI cL cZ _ f0 f1 f2 f3 f4 f5 f6 f7 f8 f9 f10 pfc pfe pfu pfw j3 (by first | assumption | omega | trivial | exact AllLt.zero | exact AllN.zero | exact AllM.zero | exact Or.inl rfl | exact Or.inr rfl)) (cwV 1 ht (good_V wd_2_211 wd_2_212 wd_2_213 wd_1_3 wd_2_214) rfl rfl rfl (by decide +kernel) ⟨Nat.le_of_ble_eq_true rfl, Nat.le_of_ble_eq_true rfl⟩) ⟨fun a U g mk q => by obtain ⟨q0, q1, qP, qK, qD, qN⟩ := q; exact ⟨q0, q1, qP, va_K.moved (u := U) (U := U.calling g mk a) (Vm.Alike.refl U.vm) qK, qD, NwA.same (u := U) rfl qN⟩, (va_recv (q0 := 1) (ci := 2) hK hP rfl rfl), fun U hU hW => ⟨rfl, by rw [hU], by rw [hU]; exact hPc, va_K.moved hW.alike hK, hDc.weaken (fun _ _ _ _ => trivial), NwA.warm hW hN⟩⟩ rfl rfl hl.1 rfl (lv_room (Nat.le_of_ble_eq_true rfl)) d_NU_event_86 ⟨Nat.le_of_ble_eq_true rfl, Nat.le_of_ble_eq_true rfl⟩) hS (fun q _ h => hFc q h) hFc (fun r13 u9 t9 H11 locs ht9 hvm hw12 hB hz1 hk1 hSn => ?_)
        obtain ⟨hP1, hD1⟩ := hB
        rw [ht9] at hP1
        obtain ⟨hPn, hDn⟩ := va_join (wr := [(x0, .inr (0, [.ref n0, .ref f0, .ref w0, .ref u0, .ref q0])), (f6, .inl (cI, 30, .inl ftr)), (f8, .inl (cI, 30, .inl fca)), (f9, .inl (cI, 30, .inl fma))]) (w1 := [(f0, .inr (2, [.int (nI pfc), .ref f1, .ref f2, .ref f3, .ref f4, .ref f5, .int (nI pfe), .ref f6, .ref f7, .ref f8, .ref f9, .ref f10, .int pfu, .int pfw]))]) hP hD [1] [0, 2, 3, 4] rfl rfl (by decide) (by decide) hk1 hFc hP1 hD1
        replace hP : va_P (dC, dI) clA [(x0, .inr (0, [.ref n0, .ref f0, .ref w0, .ref u0, .ref q0])), (f6, .inl (cI, 30, .inl ftr)), (f8, .inl (cI, 30, .inl fca)), (f9, .inl (cI, 30, .inl fma)), (f0, .inr (2, [.int (nI pfc), .ref f1, .ref f2, .ref f3, .ref f4, .ref f5, .int (nI pfe), .ref f6, .ref f7, .ref f8, .ref f9, .ref f10, .int pfu, .int pfw]))] H11 := hPn
        replace hD : va_D A [(x0, .inr (0, [.ref n0, .ref f0, .ref w0, .ref u0, .ref q0])), (f6, .inl (cI, 30, .inl ftr)), (f8, .inl (cI, 30, .inl fca)), (f9, .inl (cI, 30, .inl fma)), (f0, .inr (2, [.int (nI pfc), .ref f1, .ref f2, .ref f3, .ref f4, .ref f5, .int (nI pfe), .ref f6, .ref f7, .ref f8, .ref f9, .ref f10, .int pfu, .int pfw]))] := hDn
        replace hS := hSn
        clear hPn hDn hSn
        clear hPc hDc hFc hP1 hD1 hk1 hz1 ht9 hvm
        refine W.cs (cells' := 0) (slots' := 0) rfl rfl ?_
        subst hw12
        refine lv_if_eq (tgt := 96) hx hb d_NU_event_89 (by decide) (fun hb14 => ?_) (fun hb14 => ?_)
        · skip
          refine lv_iconst (v := 0) hx hb d_NU_event_96 (by decide) ?_
          have hP9 := hP.sub (ws' := [(x0, .inr (0, [.ref n0, .ref f0, .ref w0, .ref u0, .ref q0])), (f0, .inr (2, [.int (nI pfc), .ref f1, .ref f2, .ref f3, .ref f4, .ref f5, .int (nI pfe), .ref f6, .ref f7, .ref f8, .ref f9, .ref f10, .int pfu, .int pfw])), (f6, .inl (cI, 30, .inl ftr)), (f8, .inl (cI, 30, .inl fca)), (f9, .inl (cI, 30, .inl fma))]) [0, 4, 1, 2, 3] rfl
          have hD9 := hD.sub (ws' := [(x0, .inr (0, [.ref n0, .ref f0, .ref w0, .ref u0, .ref q0])), (f0, .inr (2, [.int (nI pfc), .ref f1, .ref f2, .ref f3, .ref f4, .ref f5, .int (nI pfe), .ref f6, .ref f7, .ref f8, .ref f9, .ref f10, .int pfu, .int pfw])), (f6, .inl (cI, 30, .inl ftr)), (f8, .inl (cI, 30, .inl fca)), (f9, .inl (cI, 30, .inl fma))]) [0, 4, 1, 2, 3] (by decide) rfl
          subst hQ
          exact W.iret (v := 0) hx hb hr (fun t9 ht9 hW => ⟨⟨0, (), rfl, (evV_3 j3_l (by omega) (by assumption) (if_pos hb14)), by rw [ht9]; exact hP9, hD9⟩, hS.F ht9⟩) hS.2.2 d_NU_event_97
        · skip
          refine lv_iconst (v := 1) hx hb d_NU_event_92 (by decide) ?_
          refine lv_goto (tgt := 97) hx hb d_NU_event_93 (by decide) ?_
          have hP9 := hP.sub (ws' := [(x0, .inr (0, [.ref n0, .ref f0, .ref w0, .ref u0, .ref q0])), (f0, .inr (2, [.int (nI pfc), .ref f1, .ref f2, .ref f3, .ref f4, .ref f5, .int (nI pfe), .ref f6, .ref f7, .ref f8, .ref f9, .ref f10, .int pfu, .int pfw])), (f6, .inl (cI, 30, .inl ftr)), (f8, .inl (cI, 30, .inl fca)), (f9, .inl (cI, 30, .inl fma))]) [0, 4, 1, 2, 3] rfl
          have hD9 := hD.sub (ws' := [(x0, .inr (0, [.ref n0, .ref f0, .ref w0, .ref u0, .ref q0])), (f0, .inr (2, [.int (nI pfc), .ref f1, .ref f2, .ref f3, .ref f4, .ref f5, .int (nI pfe), .ref f6, .ref f7, .ref f8, .ref f9, .ref f10, .int pfu, .int pfw])), (f6, .inl (cI, 30, .inl ftr)), (f8, .inl (cI, 30, .inl fca)), (f9, .inl (cI, 30, .inl fma))]) [0, 4, 1, 2, 3] (by decide) rfl
          subst hQ
          exact W.iret (v := 1) hx hb hr (fun t9 ht9 hW => ⟨⟨1, (), rfl, (evV_3 j3_l (by omega) (by assumption) (if_neg hb14)), by rw [ht9]; exact hP9, hD9⟩, hS.F ht9⟩) hS.2.2 d_NU_event_97
      refine lv_tableOut (tgt := 98) hx hb d_NU_event_18 (by have ehv4 := fa_ne (k := 0) (by decide) hv4; have ehv5 := fa_ne (k := 1) (by decide) hv5; have ehv9 := fa_ne (k := 2) (by decide) hv9; have ehv10 := fa_ne (k := 3) (by decide) hv10; omega) (by decide) ?_
      refine lv_iconst (v := (-1)) hx hb d_NU_event_98 (by decide) ?_
      have hP9 := hP.sub (ws' := [(x0, .inr (0, [.ref n0, .ref f0, .ref w0, .ref u0, .ref q0])), (f0, .inr (2, [.int (nI pfc), .ref f1, .ref f2, .ref f3, .ref f4, .ref f5, .int (nI pfe), .ref f6, .ref f7, .ref f8, .ref f9, .ref f10, .int pfu, .int pfw])), (f6, .inl (cI, 30, .inl ftr)), (f8, .inl (cI, 30, .inl fca)), (f9, .inl (cI, 30, .inl fma))]) [0, 1, 2, 3, 4] rfl
      have hD9 := hD.sub (ws' := [(x0, .inr (0, [.ref n0, .ref f0, .ref w0, .ref u0, .ref q0])), (f0, .inr (2, [.int (nI pfc), .ref f1, .ref f2, .ref f3, .ref f4, .ref f5, .int (nI pfe), .ref f6, .ref f7, .ref f8, .ref f9, .ref f10, .int pfu, .int pfw])), (f6, .inl (cI, 30, .inl ftr)), (f8, .inl (cI, 30, .inl fca)), (f9, .inl (cI, 30, .inl fma))]) [0, 1, 2, 3, 4] (by decide) rfl
      subst hQ
      exact W.iret (v := (-1)) hx hb hr (fun t9 ht9 hW => ⟨⟨(-1), (), rfl, (evV_n (by assumption) (by assumption) (by assumption) (by assumption)), by rw [ht9]; exact hP9, hD9⟩, hS.F ht9⟩) hS.2.2 d_NU_event_99
    · skip
      refine lv_iconst (v := (-1)) hx hb d_NU_event_15 (by decide) ?_
      have hP9 := hP.sub (ws' := [(x0, .inr (0, [.ref n0, .ref f0, .ref w0, .ref u0, .ref q0])), (f0, .inr (2, [.int (nI pfc), .ref f1, .ref f2, .ref f3, .ref f4, .ref f5, .int (nI pfe), .ref f6, .ref f7, .ref f8, .ref f9, .ref f10, .int pfu, .int pfw])), (f6, .inl (cI, 30, .inl ftr)), (f8, .inl (cI, 30, .inl fca)), (f9, .inl (cI, 30, .inl fma))]) [0, 1, 2, 3, 4] rfl
      have hD9 := hD.sub (ws' := [(x0, .inr (0, [.ref n0, .ref f0, .ref w0, .ref u0, .ref q0])), (f0, .inr (2, [.int (nI pfc), .ref f1, .ref f2, .ref f3, .ref f4, .ref f5, .int (nI pfe), .ref f6, .ref f7, .ref f8, .ref f9, .ref f10, .int pfu, .int pfw])), (f6, .inl (cI, 30, .inl ftr)), (f8, .inl (cI, 30, .inl fca)), (f9, .inl (cI, 30, .inl fma))]) [0, 1, 2, 3, 4] (by decide) rfl
      subst hQ
      exact W.iret (v := (-1)) hx hb hr (fun t9 ht9 hW => ⟨⟨(-1), (), rfl, (evV_out (Or.inr hb2)), by rw [ht9]; exact hP9, hD9⟩, hS.F ht9⟩) hS.2.2 d_NU_event_16

set_option maxHeartbeats 4000000 in
set_option maxRecDepth 100000 in
theorem e_Mo_event (l : Launch) (dC : Nat → ClassId) (dI : Nat → Nat → Nat) (cI cL cZ : ClassId) (sz : Nat) (m0 : Nat) (m1 : Nat) (m2 : Nat) (m3 : Nat) (m4 : Nat) (m5 : Nat) (m6 : Nat) (m7 : Nat) (m8 : Nat) (m9 : Nat) (m10 : Nat) (m11 : Nat) (m12 : Nat) (m13 : Nat) (m14 : Nat) (m15 : Nat) (m16 : Nat) (m17 : Nat) (mth : Int32) (mt : Nat) (mf : Int32) (mcd : Nat) (mev : Nat) (mwh : Int32) (mps : Int32) (mlr : Int64) (mlt : Nat) (mlm : Nat) (mln : Int32) (gtr : Nat → Int32) (grk : Nat → Int64) (gma : Nat → Int32) (gcu : Nat → Int32) (x : Int32) (y : Int32) (hev : mev ≤ 30) : Met l y_Mo_event (Cond.code y_Mo_event prog_11_method_38_code 3 (some .int) :: wsA) { frames := 1, cells := 0, slots := 0, locals := 22 } (va_Pc [.ref m0, .int x, .int y] (fun U => U.heap.size = sz ∧ va_P (dC, dI) clA [(m0, .inr (9, [.int mth, .int (nI mt), .ref m1, .ref m2, .int mf, .int (nI mcd), .ref m3, .ref m4, .ref m5, .ref m6, .int (nI mev), .ref m7, .ref m8, .ref m9, .ref m10, .ref m11, .ref m12, .ref m13, .int mwh, .int mps, .ref m14, .ref m15, .long mlr, .int (nI mlt), .int (nI mlm), .ref m16, .int mln, .ref m17])), (m7, .inl (cI, 30, .inl gtr)), (m11, .inl (cL, 30, .inr (.inl grk))), (m12, .inl (cI, 30, .inl gma)), (m13, .inl (cZ, 30, .inl gcu))] U.heap ∧ va_K (dC, dI) clA [(cI, .int), (cL, .long), (cZ, .boolean)] U ∧ va_D (fun _ => True) [(m0, .inr (9, [.int mth, .int (nI mt), .ref m1, .ref m2, .int mf, .int (nI mcd), .ref m3, .ref m4, .ref m5, .ref m6, .int (nI mev), .ref m7, .ref m8, .ref m9, .ref m10, .ref m11, .ref m12, .ref m13, .int mwh, .int mps, .ref m14, .ref m15, .long mlr, .int (nI mlt), .int (nI mlm), .ref m16, .int mln, .ref m17])), (m7, .inl (cI, 30, .inl gtr)), (m11, .inl (cL, 30, .inr (.inl grk))), (m12, .inl (cI, 30, .inl gma)), (m13, .inl (cZ, 30, .inl gcu))] ∧ NwA U)) (va_Qi (fun r (_ : Unit) => (r = evV mev gtr (fun j => Int64.toInt32 (grk j >>> (Int32.toInt64 40 &&& 63)) - 1) gma (fun j => if gcu j = 0 then 0 else 1) x y)) (fun _ t => va_P (dC, dI) clA [(m0, .inr (9, [.int 0, .int (nI mt), .ref m1, .ref m2, .int mf, .int (nI mcd), .ref m3, .ref m4, .ref m5, .ref m6, .int (nI mev), .ref m7, .ref m8, .ref m9, .ref m10, .ref m11, .ref m12, .ref m13, .int mwh, .int mps, .ref m14, .ref m15, .long mlr, .int (nI mlt), .int (nI mlm), .ref m16, .int mln, .ref m17])), (m7, .inl (cI, 30, .inl gtr)), (m11, .inl (cL, 30, .inr (.inl grk))), (m12, .inl (cI, 30, .inl gma)), (m13, .inl (cZ, 30, .inl gcu))] t.heap ∧ va_D (va_A [(m0, .inr (9, [.int mth, .int (nI mt), .ref m1, .ref m2, .int mf, .int (nI mcd), .ref m3, .ref m4, .ref m5, .ref m6, .int (nI mev), .ref m7, .ref m8, .ref m9, .ref m10, .ref m11, .ref m12, .ref m13, .int mwh, .int mps, .ref m14, .ref m15, .long mlr, .int (nI mlt), .int (nI mlm), .ref m16, .int mln, .ref m17])), (m7, .inl (cI, 30, .inl gtr)), (m11, .inl (cL, 30, .inr (.inl grk))), (m12, .inl (cI, 30, .inl gma)), (m13, .inl (cZ, 30, .inl gcu))] sz) [(m0, .inr (9, [.int 0, .int (nI mt), .ref m1, .ref m2, .int mf, .int (nI mcd), .ref m3, .ref m4, .ref m5, .ref m6, .int (nI mev), .ref m7, .ref m8, .ref m9, .ref m10, .ref m11, .ref m12, .ref m13, .int mwh, .int mps, .ref m14, .ref m15, .long mlr, .int (nI mlt), .int (nI mlm), .ref m16, .int mln, .ref m17])), (m7, .inl (cI, 30, .inl gtr)), (m11, .inl (cL, 30, .inr (.inl grk))), (m12, .inl (cI, 30, .inl gma)), (m13, .inl (cZ, 30, .inl gcu))]) (va_A [(m0, .inr (9, [.int mth, .int (nI mt), .ref m1, .ref m2, .int mf, .int (nI mcd), .ref m3, .ref m4, .ref m5, .ref m6, .int (nI mev), .ref m7, .ref m8, .ref m9, .ref m10, .ref m11, .ref m12, .ref m13, .int mwh, .int mps, .ref m14, .ref m15, .long mlr, .int (nI mlt), .int (nI mlm), .ref m16, .int mln, .ref m17])), (m7, .inl (cI, 30, .inl gtr)), (m11, .inl (cL, 30, .inr (.inl grk))), (m12, .inl (cI, 30, .inl gma)), (m13, .inl (cZ, 30, .inl gcu))] sz)) 0 0 (va_A [(m0, .inr (9, [.int mth, .int (nI mt), .ref m1, .ref m2, .int mf, .int (nI mcd), .ref m3, .ref m4, .ref m5, .ref m6, .int (nI mev), .ref m7, .ref m8, .ref m9, .ref m10, .ref m11, .ref m12, .ref m13, .int mwh, .int mps, .ref m14, .ref m15, .long mlr, .int (nI mlt), .int (nI mlm), .ref m16, .int mln, .ref m17])), (m7, .inl (cI, 30, .inl gtr)), (m11, .inl (cL, 30, .inr (.inl grk))), (m12, .inl (cI, 30, .inl gma)), (m13, .inl (cZ, 30, .inl gcu))] sz) := by
  refine Met.ofW (cc := prog_11_method_38_code) (maxL := 3) (ret := (some .int)) (by decide) rfl ?_
  intro p e s m args below meth c s₁ B hml hv
  obtain ⟨rfl, hsz, hP, hK, hD0, hN⟩ := hv
  have hx := B.exec
  have hb := B.bytes
  have hr := B.returns
  have ht : ∀ w ∈ wsA, w.before _ s = true := fun w h => atoms_spec (ws := (Cond.code y_Mo_event prog_11_method_38_code 3 (some .int) :: wsA)) B.pre w (List.mem_cons_of_mem _ h)
  have hown : s.vm.findClass "NetUnfolderModel" = some m.cls := findClass_of_methodNamed B.named
  have hlocks := B.notSynchronized
  subst hsz
  have hD := hD0.self (sz := s.heap.size)
  generalize hAe : va_A [(m0, .inr (9, [.int mth, .int (nI mt), .ref m1, .ref m2, .int mf, .int (nI mcd), .ref m3, .ref m4, .ref m5, .ref m6, .int (nI mev), .ref m7, .ref m8, .ref m9, .ref m10, .ref m11, .ref m12, .ref m13, .int mwh, .int mps, .ref m14, .ref m15, .long mlr, .int (nI mlt), .int (nI mlm), .ref m16, .int mln, .ref m17])), (m7, .inl (cI, 30, .inl gtr)), (m11, .inl (cL, 30, .inr (.inl grk))), (m12, .inl (cI, 30, .inl gma)), (m13, .inl (cZ, 30, .inl gcu))] s.heap.size = A at hD ⊢
  have hA : ∀ q : Nat, s.heap.size ≤ q → A q := fun q h => by rw [← hAe]; exact Or.inr h
  have hS : va_S A s.heap s.heap [] := va_S.rf
  have hl := lv_entry ([.ref m0, .int x, .int y]) (n := 3) (Nat.le_of_ble_eq_true rfl)
  rw [lg_entry_eq]
  generalize (lg_sl ([.ref m0, .int x, .int y]) ++ List.replicate (3 - (lg_sl ([.ref m0, .int x, .int y])).length) Slot.unset).toArray = ls at hl ⊢
  replace hl : lv_has ls 3 [(0, .ref m0), (1, .int x), (2, .int y)] := hl
  refine W_Q (fun Q hQ => ?_)
  refine lv_aload_n hx hb d_Mo_event_0 rfl (lv_at hl 0 rfl) ?_
  refine lv_iconst (v := 0) hx hb d_Mo_event_1 (by decide) ?_
  refine va_put (D := (dC, dI)) (ci := 9) (v := .int 0) (ty := .int) (C := "NetUnfolderModel") (T := T_Mo) (N := 28) hx hb ht in_Mo ty_Mo ok_Mo nm_Mo hown hK hP hD hS 0 rfl rfl 0 (by decide) (ht _ wd_4_0) (fun _ h9 => h9) rfl (by decide +kernel) rfl rfl (Nat.le_of_ble_eq_true rfl) d_Mo_event_2 (fun H1 locs hPn hDn hSn => ?_)
  replace hP : va_P (dC, dI) clA [(m0, .inr (9, [.int 0, .int (nI mt), .ref m1, .ref m2, .int mf, .int (nI mcd), .ref m3, .ref m4, .ref m5, .ref m6, .int (nI mev), .ref m7, .ref m8, .ref m9, .ref m10, .ref m11, .ref m12, .ref m13, .int mwh, .int mps, .ref m14, .ref m15, .long mlr, .int (nI mlt), .int (nI mlm), .ref m16, .int mln, .ref m17])), (m7, .inl (cI, 30, .inl gtr)), (m11, .inl (cL, 30, .inr (.inl grk))), (m12, .inl (cI, 30, .inl gma)), (m13, .inl (cZ, 30, .inl gcu))] H1 := hPn
  replace hD : va_D A [(m0, .inr (9, [.int 0, .int (nI mt), .ref m1, .ref m2, .int mf, .int (nI mcd), .ref m3, .ref m4, .ref m5, .ref m6, .int (nI mev), .ref m7, .ref m8, .ref m9, .ref m10, .ref m11, .ref m12, .ref m13, .int mwh, .int mps, .ref m14, .ref m15, .long mlr, .int (nI mlt), .int (nI mlm), .ref m16, .int mln, .ref m17])), (m7, .inl (cI, 30, .inl gtr)), (m11, .inl (cL, 30, .inr (.inl grk))), (m12, .inl (cI, 30, .inl gma)), (m13, .inl (cZ, 30, .inl gcu))] := hDn
  replace hS := hSn
  clear hPn hDn hSn
  refine lv_iload_n hx hb d_Mo_event_5 rfl (lv_at hl 1 rfl) ?_
  refine lv_iconst (v := 0) hx hb d_Mo_event_6 (by decide) ?_
  refine lv_aload_n hx hb d_Mo_event_7 rfl (lv_at hl 0 rfl) ?_
  refine va_get (D := (dC, dI)) (ci := 9) (v := .int (nI mev)) (C := "NetUnfolderModel") (T := T_Mo) (N := 28) hx hb ht in_Mo hown hK hP 0 rfl rfl 10 (by decide) (ht _ wd_4_10) (fun _ h9 => h9) rfl d_Mo_event_8 ?_
  refine lv_iconst (v := 1) hx hb d_Mo_event_11 (by decide) ?_
  refine lv_isub hx hb d_Mo_event_12 ?_
  have hPc : va_P (dC, dI) clA [] _ := pu_P (H := H1)
  have hDc : va_D (fun _ => True) [] := pu_D
  have hFc := pu_free hS hA
  refine va_calli (va_runS (As := [.int x, .int 0, .int ((nI mev) - 1)]) (rest := []) ⟨hx, hb, hml, hown, ht⟩ (c_Mo_outside l dC dI cI cL cZ _ x 0 ((nI mev) - 1) ) (va_cwS 3 ht (good_S wd_4_90 wd_4_91 wd_1_10 wd_4_92) rfl rfl rfl (by decide +kernel) ⟨Nat.le_of_ble_eq_true rfl, Nat.le_of_ble_eq_true rfl⟩) ⟨fun a U g mk q => by obtain ⟨q0, q1, qP, qK, qD, qN⟩ := q; exact ⟨q0, q1, qP, va_K.moved (u := U) (U := U.calling g mk a) (Vm.Alike.refl U.vm) qK, qD, NwA.same (u := U) rfl qN⟩, fun U hU hW => ⟨rfl, by rw [hU], by rw [hU]; exact hPc, va_K.moved hW.alike hK, hDc.weaken (fun _ _ _ _ => trivial), NwA.warm hW hN⟩⟩ rfl rfl hl.1 rfl (lv_room (Nat.le_of_ble_eq_true rfl)) d_Mo_event_13 ⟨Nat.le_of_ble_eq_true rfl, Nat.le_of_ble_eq_true rfl⟩) hS (fun q _ h => hFc q h) hFc (fun r4 u9 t9 H2 locs ht9 hvm hw3 hB hz1 hk1 hSn => ?_)
  replace hP : va_P (dC, dI) clA [(m0, .inr (9, [.int 0, .int (nI mt), .ref m1, .ref m2, .int mf, .int (nI mcd), .ref m3, .ref m4, .ref m5, .ref m6, .int (nI mev), .ref m7, .ref m8, .ref m9, .ref m10, .ref m11, .ref m12, .ref m13, .int mwh, .int mps, .ref m14, .ref m15, .long mlr, .int (nI mlt), .int (nI mlm), .ref m16, .int mln, .ref m17])), (m7, .inl (cI, 30, .inl gtr)), (m11, .inl (cL, 30, .inr (.inl grk))), (m12, .inl (cI, 30, .inl gma)), (m13, .inl (cZ, 30, .inl gcu))] H2 := pu_keep hP hk1
  replace hS := hSn
  clear hSn hPc hDc hFc hk1 hz1 ht9 hvm hB
  refine W.cs (cells' := 0) (slots' := 0) rfl rfl ?_
  have hr5 := hw3
  refine lv_if_ne (tgt := 28) hx hb d_Mo_event_16 (by decide) (fun hb6 => ?_) (fun hb6 => ?_)
  · skip
    refine lv_iconst (v := (-1)) hx hb d_Mo_event_28 (by decide) ?_
    have hP9 := hP.sub (ws' := [(m0, .inr (9, [.int 0, .int (nI mt), .ref m1, .ref m2, .int mf, .int (nI mcd), .ref m3, .ref m4, .ref m5, .ref m6, .int (nI mev), .ref m7, .ref m8, .ref m9, .ref m10, .ref m11, .ref m12, .ref m13, .int mwh, .int mps, .ref m14, .ref m15, .long mlr, .int (nI mlt), .int (nI mlm), .ref m16, .int mln, .ref m17])), (m7, .inl (cI, 30, .inl gtr)), (m11, .inl (cL, 30, .inr (.inl grk))), (m12, .inl (cI, 30, .inl gma)), (m13, .inl (cZ, 30, .inl gcu))]) [0, 1, 2, 3, 4] rfl
    have hD9 := hD.sub (ws' := [(m0, .inr (9, [.int 0, .int (nI mt), .ref m1, .ref m2, .int mf, .int (nI mcd), .ref m3, .ref m4, .ref m5, .ref m6, .int (nI mev), .ref m7, .ref m8, .ref m9, .ref m10, .ref m11, .ref m12, .ref m13, .int mwh, .int mps, .ref m14, .ref m15, .long mlr, .int (nI mlt), .int (nI mlm), .ref m16, .int mln, .ref m17])), (m7, .inl (cI, 30, .inl gtr)), (m11, .inl (cL, 30, .inr (.inl grk))), (m12, .inl (cI, 30, .inl gma)), (m13, .inl (cZ, 30, .inl gcu))]) [0, 1, 2, 3, 4] (by decide) rfl
    subst hQ
    exact W.iret (v := (-1)) hx hb hr (fun t9 ht9 hW => ⟨⟨(-1), (), rfl, (evV_out (out_ge (by omega) (out_1 hr5 hb6))), by rw [ht9]; exact hP9, hD9⟩, hS.F ht9⟩) hS.2.2 d_Mo_event_29
  · skip
    have ho8 := out_0 hr5 hb6
    obtain ⟨j7, j7_l, rfl⟩ := ix_out (by omega) ho8.1 ho8.2
    refine lv_iload_n hx hb d_Mo_event_19 rfl (lv_at hl 2 rfl) ?_
    refine lv_iconst (v := 0) hx hb d_Mo_event_20 (by decide) ?_
    refine lv_iconst (v := 3) hx hb d_Mo_event_21 (by decide) ?_
    have hPc : va_P (dC, dI) clA [] _ := pu_P (H := H2)
    have hDc : va_D (fun _ => True) [] := pu_D
    have hFc := pu_free hS hA
    refine va_calli (va_runS (As := [.int y, .int 0, .int 3]) (rest := []) ⟨hx, hb, hml, hown, ht⟩ (c_Mo_outside l dC dI cI cL cZ _ y 0 3 ) (va_cwS 3 ht (good_S wd_4_90 wd_4_91 wd_1_10 wd_4_92) rfl rfl rfl (by decide +kernel) ⟨Nat.le_of_ble_eq_true rfl, Nat.le_of_ble_eq_true rfl⟩) ⟨fun a U g mk q => by obtain ⟨q0, q1, qP, qK, qD, qN⟩ := q; exact ⟨q0, q1, qP, va_K.moved (u := U) (U := U.calling g mk a) (Vm.Alike.refl U.vm) qK, qD, NwA.same (u := U) rfl qN⟩, fun U hU hW => ⟨rfl, by rw [hU], by rw [hU]; exact hPc, va_K.moved hW.alike hK, hDc.weaken (fun _ _ _ _ => trivial), NwA.warm hW hN⟩⟩ rfl rfl hl.1 rfl (lv_room (Nat.le_of_ble_eq_true rfl)) d_Mo_event_22 ⟨Nat.le_of_ble_eq_true rfl, Nat.le_of_ble_eq_true rfl⟩) hS (fun q _ h => hFc q h) hFc (fun r11 u9 t9 H9 locs ht9 hvm hw10 hB hz1 hk1 hSn => ?_)
    replace hP : va_P (dC, dI) clA [(m0, .inr (9, [.int 0, .int (nI mt), .ref m1, .ref m2, .int mf, .int (nI mcd), .ref m3, .ref m4, .ref m5, .ref m6, .int (nI mev), .ref m7, .ref m8, .ref m9, .ref m10, .ref m11, .ref m12, .ref m13, .int mwh, .int mps, .ref m14, .ref m15, .long mlr, .int (nI mlt), .int (nI mlm), .ref m16, .int mln, .ref m17])), (m7, .inl (cI, 30, .inl gtr)), (m11, .inl (cL, 30, .inr (.inl grk))), (m12, .inl (cI, 30, .inl gma)), (m13, .inl (cZ, 30, .inl gcu))] H9 := pu_keep hP hk1
    replace hS := hSn
    clear hSn hPc hDc hFc hk1 hz1 ht9 hvm hB
    refine W.cs (cells' := 0) (slots' := 0) rfl rfl ?_
    have hr12 := hw10
    refine lv_if_eq (tgt := 30) hx hb d_Mo_event_25 (by decide) (fun hb13 => ?_) (fun hb13 => ?_)
    · skip
      refine lv_iload_n hx hb d_Mo_event_30 rfl (lv_at hl 2 rfl) ?_
      refine lv_if_ne (tgt := 43) hx hb d_Mo_event_31 (by decide) (fun hb14 => ?_) (fun hb14 => ?_)
      · skip
        refine lv_iload_n hx hb d_Mo_event_43 rfl (lv_at hl 2 rfl) ?_
        refine lv_iconst (v := 1) hx hb d_Mo_event_44 (by decide) ?_
        refine lv_icmp_ne (tgt := 63) hx hb d_Mo_event_45 (by decide) (fun hb15 => ?_) (fun hb15 => ?_)
        · skip
          refine lv_iload_n hx hb d_Mo_event_63 rfl (lv_at hl 2 rfl) ?_
          refine lv_iconst (v := 2) hx hb d_Mo_event_64 (by decide) ?_
          refine lv_icmp_ne (tgt := 77) hx hb d_Mo_event_65 (by decide) (fun hb16 => ?_) (fun hb16 => ?_)
          · skip
            refine lv_aload_n hx hb d_Mo_event_77 rfl (lv_at hl 0 rfl) ?_
            refine va_get (D := (dC, dI)) (ci := 9) (v := .ref m13) (C := "NetUnfolderModel") (T := T_Mo) (N := 28) hx hb ht in_Mo hown hK hP 0 rfl rfl 17 (by decide) (ht _ wd_4_17) (fun _ h9 => h9) rfl d_Mo_event_78 ?_
            refine lv_iload_n hx hb d_Mo_event_81 rfl (lv_at hl 1 rfl) ?_
            refine na_zald (k := j7) hx hb hK hP 4 2 rfl rfl (by omega) (by decide) d_Mo_event_82 ?_
            refine lv_if_eq (tgt := 90) hx hb d_Mo_event_83 (by decide) (fun hb17 => ?_) (fun hb17 => ?_)
            · skip
              refine lv_iconst (v := 0) hx hb d_Mo_event_90 (by decide) ?_
              have hP9 := hP.sub (ws' := [(m0, .inr (9, [.int 0, .int (nI mt), .ref m1, .ref m2, .int mf, .int (nI mcd), .ref m3, .ref m4, .ref m5, .ref m6, .int (nI mev), .ref m7, .ref m8, .ref m9, .ref m10, .ref m11, .ref m12, .ref m13, .int mwh, .int mps, .ref m14, .ref m15, .long mlr, .int (nI mlt), .int (nI mlm), .ref m16, .int mln, .ref m17])), (m7, .inl (cI, 30, .inl gtr)), (m11, .inl (cL, 30, .inr (.inl grk))), (m12, .inl (cI, 30, .inl gma)), (m13, .inl (cZ, 30, .inl gcu))]) [0, 1, 2, 3, 4] rfl
              have hD9 := hD.sub (ws' := [(m0, .inr (9, [.int 0, .int (nI mt), .ref m1, .ref m2, .int mf, .int (nI mcd), .ref m3, .ref m4, .ref m5, .ref m6, .int (nI mev), .ref m7, .ref m8, .ref m9, .ref m10, .ref m11, .ref m12, .ref m13, .int mwh, .int mps, .ref m14, .ref m15, .long mlr, .int (nI mlt), .int (nI mlm), .ref m16, .int mln, .ref m17])), (m7, .inl (cI, 30, .inl gtr)), (m11, .inl (cL, 30, .inr (.inl grk))), (m12, .inl (cI, 30, .inl gma)), (m13, .inl (cZ, 30, .inl gcu))]) [0, 1, 2, 3, 4] (by decide) rfl
              subst hQ
              exact W.iret (v := 0) hx hb hr (fun t9 ht9 hW => ⟨⟨0, (), rfl, (evV_3 j7_l (by omega) (is_3 (out_0 hr12 hb13) (by assumption) (by assumption) (by assumption)) (if_pos hb17)), by rw [ht9]; exact hP9, hD9⟩, hS.F ht9⟩) hS.2.2 d_Mo_event_91
            · skip
              refine lv_iconst (v := 1) hx hb d_Mo_event_86 (by decide) ?_
              refine lv_goto (tgt := 91) hx hb d_Mo_event_87 (by decide) ?_
              have hP9 := hP.sub (ws' := [(m0, .inr (9, [.int 0, .int (nI mt), .ref m1, .ref m2, .int mf, .int (nI mcd), .ref m3, .ref m4, .ref m5, .ref m6, .int (nI mev), .ref m7, .ref m8, .ref m9, .ref m10, .ref m11, .ref m12, .ref m13, .int mwh, .int mps, .ref m14, .ref m15, .long mlr, .int (nI mlt), .int (nI mlm), .ref m16, .int mln, .ref m17])), (m7, .inl (cI, 30, .inl gtr)), (m11, .inl (cL, 30, .inr (.inl grk))), (m12, .inl (cI, 30, .inl gma)), (m13, .inl (cZ, 30, .inl gcu))]) [0, 1, 2, 3, 4] rfl
              have hD9 := hD.sub (ws' := [(m0, .inr (9, [.int 0, .int (nI mt), .ref m1, .ref m2, .int mf, .int (nI mcd), .ref m3, .ref m4, .ref m5, .ref m6, .int (nI mev), .ref m7, .ref m8, .ref m9, .ref m10, .ref m11, .ref m12, .ref m13, .int mwh, .int mps, .ref m14, .ref m15, .long mlr, .int (nI mlt), .int (nI mlm), .ref m16, .int mln, .ref m17])), (m7, .inl (cI, 30, .inl gtr)), (m11, .inl (cL, 30, .inr (.inl grk))), (m12, .inl (cI, 30, .inl gma)), (m13, .inl (cZ, 30, .inl gcu))]) [0, 1, 2, 3, 4] (by decide) rfl
              subst hQ
              exact W.iret (v := 1) hx hb hr (fun t9 ht9 hW => ⟨⟨1, (), rfl, (evV_3 j7_l (by omega) (is_3 (out_0 hr12 hb13) (by assumption) (by assumption) (by assumption)) (if_neg hb17)), by rw [ht9]; exact hP9, hD9⟩, hS.F ht9⟩) hS.2.2 d_Mo_event_91
          · skip
            refine lv_aload_n hx hb d_Mo_event_68 rfl (lv_at hl 0 rfl) ?_
            refine va_get (D := (dC, dI)) (ci := 9) (v := .ref m12) (C := "NetUnfolderModel") (T := T_Mo) (N := 28) hx hb ht in_Mo hown hK hP 0 rfl rfl 16 (by decide) (ht _ wd_4_16) (fun _ h9 => h9) rfl d_Mo_event_69 ?_
            refine lv_iload_n hx hb d_Mo_event_72 rfl (lv_at hl 1 rfl) ?_
            refine na_iald (k := j7) hx hb hK hP 3 0 rfl rfl (by omega) (by decide) d_Mo_event_73 ?_
            refine lv_goto (tgt := 91) hx hb d_Mo_event_74 (by decide) ?_
            have hP9 := hP.sub (ws' := [(m0, .inr (9, [.int 0, .int (nI mt), .ref m1, .ref m2, .int mf, .int (nI mcd), .ref m3, .ref m4, .ref m5, .ref m6, .int (nI mev), .ref m7, .ref m8, .ref m9, .ref m10, .ref m11, .ref m12, .ref m13, .int mwh, .int mps, .ref m14, .ref m15, .long mlr, .int (nI mlt), .int (nI mlm), .ref m16, .int mln, .ref m17])), (m7, .inl (cI, 30, .inl gtr)), (m11, .inl (cL, 30, .inr (.inl grk))), (m12, .inl (cI, 30, .inl gma)), (m13, .inl (cZ, 30, .inl gcu))]) [0, 1, 2, 3, 4] rfl
            have hD9 := hD.sub (ws' := [(m0, .inr (9, [.int 0, .int (nI mt), .ref m1, .ref m2, .int mf, .int (nI mcd), .ref m3, .ref m4, .ref m5, .ref m6, .int (nI mev), .ref m7, .ref m8, .ref m9, .ref m10, .ref m11, .ref m12, .ref m13, .int mwh, .int mps, .ref m14, .ref m15, .long mlr, .int (nI mlt), .int (nI mlm), .ref m16, .int mln, .ref m17])), (m7, .inl (cI, 30, .inl gtr)), (m11, .inl (cL, 30, .inr (.inl grk))), (m12, .inl (cI, 30, .inl gma)), (m13, .inl (cZ, 30, .inl gcu))]) [0, 1, 2, 3, 4] (by decide) rfl
            subst hQ
            exact W.iret (v := gma j7) hx hb hr (fun t9 ht9 hW => ⟨⟨gma j7, (), rfl, (evV_2 j7_l (by omega) (by assumption) rfl), by rw [ht9]; exact hP9, hD9⟩, hS.F ht9⟩) hS.2.2 d_Mo_event_91
        · skip
          refine lv_aload_n hx hb d_Mo_event_48 rfl (lv_at hl 0 rfl) ?_
          refine va_get (D := (dC, dI)) (ci := 9) (v := .ref m11) (C := "NetUnfolderModel") (T := T_Mo) (N := 28) hx hb ht in_Mo hown hK hP 0 rfl rfl 15 (by decide) (ht _ wd_4_15) (fun _ h9 => h9) rfl d_Mo_event_49 ?_
          refine lv_iload_n hx hb d_Mo_event_52 rfl (lv_at hl 1 rfl) ?_
          refine na_lald (k := j7) hx hb hK hP 2 1 rfl rfl (by omega) (by decide) d_Mo_event_53 ?_
          refine lv_bipush (v := 40) hx hb d_Mo_event_54 (by decide) ?_
          refine lv_lshr (v := (grk j7) >>> (Int32.toInt64 40 &&& 63)) hx hb d_Mo_event_56 rfl ?_
          refine lv_l2i (v := Int64.toInt32 ((grk j7) >>> (Int32.toInt64 40 &&& 63))) hx hb d_Mo_event_57 rfl ?_
          refine lv_iconst (v := 1) hx hb d_Mo_event_58 (by decide) ?_
          refine lv_isub hx hb d_Mo_event_59 ?_
          refine lv_goto (tgt := 91) hx hb d_Mo_event_60 (by decide) ?_
          have hP9 := hP.sub (ws' := [(m0, .inr (9, [.int 0, .int (nI mt), .ref m1, .ref m2, .int mf, .int (nI mcd), .ref m3, .ref m4, .ref m5, .ref m6, .int (nI mev), .ref m7, .ref m8, .ref m9, .ref m10, .ref m11, .ref m12, .ref m13, .int mwh, .int mps, .ref m14, .ref m15, .long mlr, .int (nI mlt), .int (nI mlm), .ref m16, .int mln, .ref m17])), (m7, .inl (cI, 30, .inl gtr)), (m11, .inl (cL, 30, .inr (.inl grk))), (m12, .inl (cI, 30, .inl gma)), (m13, .inl (cZ, 30, .inl gcu))]) [0, 1, 2, 3, 4] rfl
          have hD9 := hD.sub (ws' := [(m0, .inr (9, [.int 0, .int (nI mt), .ref m1, .ref m2, .int mf, .int (nI mcd), .ref m3, .ref m4, .ref m5, .ref m6, .int (nI mev), .ref m7, .ref m8, .ref m9, .ref m10, .ref m11, .ref m12, .ref m13, .int mwh, .int mps, .ref m14, .ref m15, .long mlr, .int (nI mlt), .int (nI mlm), .ref m16, .int mln, .ref m17])), (m7, .inl (cI, 30, .inl gtr)), (m11, .inl (cL, 30, .inr (.inl grk))), (m12, .inl (cI, 30, .inl gma)), (m13, .inl (cZ, 30, .inl gcu))]) [0, 1, 2, 3, 4] (by decide) rfl
          subst hQ
          exact W.iret (v := (Int64.toInt32 ((grk j7) >>> (Int32.toInt64 40 &&& 63))) - 1) hx hb hr (fun t9 ht9 hW => ⟨⟨(Int64.toInt32 ((grk j7) >>> (Int32.toInt64 40 &&& 63))) - 1, (), rfl, (evV_1 j7_l (by omega) (by assumption) rfl), by rw [ht9]; exact hP9, hD9⟩, hS.F ht9⟩) hS.2.2 d_Mo_event_91
      · skip
        refine lv_aload_n hx hb d_Mo_event_34 rfl (lv_at hl 0 rfl) ?_
        refine va_get (D := (dC, dI)) (ci := 9) (v := .ref m7) (C := "NetUnfolderModel") (T := T_Mo) (N := 28) hx hb ht in_Mo hown hK hP 0 rfl rfl 11 (by decide) (ht _ wd_4_11) (fun _ h9 => h9) rfl d_Mo_event_35 ?_
        refine lv_iload_n hx hb d_Mo_event_38 rfl (lv_at hl 1 rfl) ?_
        refine na_iald (k := j7) hx hb hK hP 1 0 rfl rfl (by omega) (by decide) d_Mo_event_39 ?_
        refine lv_goto (tgt := 91) hx hb d_Mo_event_40 (by decide) ?_
        have hP9 := hP.sub (ws' := [(m0, .inr (9, [.int 0, .int (nI mt), .ref m1, .ref m2, .int mf, .int (nI mcd), .ref m3, .ref m4, .ref m5, .ref m6, .int (nI mev), .ref m7, .ref m8, .ref m9, .ref m10, .ref m11, .ref m12, .ref m13, .int mwh, .int mps, .ref m14, .ref m15, .long mlr, .int (nI mlt), .int (nI mlm), .ref m16, .int mln, .ref m17])), (m7, .inl (cI, 30, .inl gtr)), (m11, .inl (cL, 30, .inr (.inl grk))), (m12, .inl (cI, 30, .inl gma)), (m13, .inl (cZ, 30, .inl gcu))]) [0, 1, 2, 3, 4] rfl
        have hD9 := hD.sub (ws' := [(m0, .inr (9, [.int 0, .int (nI mt), .ref m1, .ref m2, .int mf, .int (nI mcd), .ref m3, .ref m4, .ref m5, .ref m6, .int (nI mev), .ref m7, .ref m8, .ref m9, .ref m10, .ref m11, .ref m12, .ref m13, .int mwh, .int mps, .ref m14, .ref m15, .long mlr, .int (nI mlt), .int (nI mlm), .ref m16, .int mln, .ref m17])), (m7, .inl (cI, 30, .inl gtr)), (m11, .inl (cL, 30, .inr (.inl grk))), (m12, .inl (cI, 30, .inl gma)), (m13, .inl (cZ, 30, .inl gcu))]) [0, 1, 2, 3, 4] (by decide) rfl
        subst hQ
        exact W.iret (v := gtr j7) hx hb hr (fun t9 ht9 hW => ⟨⟨gtr j7, (), rfl, (evV_0 j7_l (by omega) (by assumption) rfl), by rw [ht9]; exact hP9, hD9⟩, hS.F ht9⟩) hS.2.2 d_Mo_event_91
    · skip
      refine lv_iconst (v := (-1)) hx hb d_Mo_event_28 (by decide) ?_
      have hP9 := hP.sub (ws' := [(m0, .inr (9, [.int 0, .int (nI mt), .ref m1, .ref m2, .int mf, .int (nI mcd), .ref m3, .ref m4, .ref m5, .ref m6, .int (nI mev), .ref m7, .ref m8, .ref m9, .ref m10, .ref m11, .ref m12, .ref m13, .int mwh, .int mps, .ref m14, .ref m15, .long mlr, .int (nI mlt), .int (nI mlm), .ref m16, .int mln, .ref m17])), (m7, .inl (cI, 30, .inl gtr)), (m11, .inl (cL, 30, .inr (.inl grk))), (m12, .inl (cI, 30, .inl gma)), (m13, .inl (cZ, 30, .inl gcu))]) [0, 1, 2, 3, 4] rfl
      have hD9 := hD.sub (ws' := [(m0, .inr (9, [.int 0, .int (nI mt), .ref m1, .ref m2, .int mf, .int (nI mcd), .ref m3, .ref m4, .ref m5, .ref m6, .int (nI mev), .ref m7, .ref m8, .ref m9, .ref m10, .ref m11, .ref m12, .ref m13, .int mwh, .int mps, .ref m14, .ref m15, .long mlr, .int (nI mlt), .int (nI mlm), .ref m16, .int mln, .ref m17])), (m7, .inl (cI, 30, .inl gtr)), (m11, .inl (cL, 30, .inr (.inl grk))), (m12, .inl (cI, 30, .inl gma)), (m13, .inl (cZ, 30, .inl gcu))]) [0, 1, 2, 3, 4] (by decide) rfl
      subst hQ
      exact W.iret (v := (-1)) hx hb hr (fun t9 ht9 hW => ⟨⟨(-1), (), rfl, (evV_n (lt_n4 (out_1 hr12 hb13)).1 (lt_n4 (out_1 hr12 hb13)).2.1 (lt_n4 (out_1 hr12 hb13)).2.2.1 (lt_n4 (out_1 hr12 hb13)).2.2.2), by rw [ht9]; exact hP9, hD9⟩, hS.F ht9⟩) hS.2.2 d_Mo_event_29
