set_option maxHeartbeats 4000000 in
set_option maxRecDepth 100000 in
theorem e_NU_leastS (l : Launch) (dC : Nat → ClassId) (dI : Nat → Nat → Nat) (cI cL cZ : ClassId) (sz : Nat) (x : Int64) (k : Nat) (hxB : B64 x (fun q => q = k)) (hk : k < 60) : Met l y_NU_least (Cond.code y_NU_least prog_1_method_18_code 2 (some .int) :: wsA) { frames := 1, cells := 0, slots := 0, locals := 21 } (va_Pc [.long x] (fun U => U.heap.size = sz ∧ va_P (dC, dI) clA [] U.heap ∧ va_K (dC, dI) clA [(cI, .int), (cL, .long), (cZ, .boolean)] U ∧ va_D (fun _ => True) [] ∧ NwA U)) (va_Qi (fun r (_ : Unit) => r = nI k) (fun _ t => va_P (dC, dI) clA [] t.heap ∧ va_D (va_A [] sz) []) (va_A [] sz)) 0 0 (va_A [] sz) := by
  refine Met.ofW (cc := prog_1_method_18_code) (maxL := 2) (ret := (some .int)) (by decide) rfl ?_
  intro p e s m args below meth c s₁ B hml hv
  obtain ⟨rfl, hsz, hP, hK, hD0, hN⟩ := hv
  have hx := B.exec
  have hb := B.bytes
  have hr := B.returns
  have ht : ∀ w ∈ wsA, w.before _ s = true := fun w h => atoms_spec (ws := (Cond.code y_NU_least prog_1_method_18_code 2 (some .int) :: wsA)) B.pre w (List.mem_cons_of_mem _ h)
  have hown : s.vm.findClass "NetUnfolder" = some m.cls := findClass_of_methodNamed B.named
  have hlocks := B.notSynchronized
  subst hsz
  have hD := hD0.self (sz := s.heap.size)
  generalize hAe : va_A [] s.heap.size = A at hD ⊢
  have hA : ∀ q : Nat, s.heap.size ≤ q → A q := fun q h => by rw [← hAe]; exact Or.inr h
  have hS : va_S A s.heap s.heap [] := va_S.rf
  have hl := lv_entry ([.long x]) (n := 2) (Nat.le_of_ble_eq_true rfl)
  rw [lg_entry_eq]
  generalize (lg_sl ([.long x]) ++ List.replicate (2 - (lg_sl ([.long x])).length) Slot.unset).toArray = ls at hl ⊢
  replace hl : lv_has ls 2 [(0, .long x)] := hl
  refine W_Q (fun Q hQ => ?_)
  refine lv_lload_n hx hb d_NU_least_0 rfl (lv_at hl 0 rfl) ?_
  refine lv_lload_n hx hb d_NU_least_1 rfl (lv_at hl 0 rfl) ?_
  refine lv_lneg hx hb d_NU_least_2 ?_
  refine lv_land hx hb d_NU_least_3 ?_
  refine lv_lconst (v := 1) hx hb d_NU_least_4 (by decide) ?_
  refine lv_lsub hx hb d_NU_least_5 ?_
  have hPc : va_P (dC, dI) clA [] _ := pu_P (H := s.heap)
  have hDc : va_D (fun _ => True) [] := pu_D
  have hFc := pu_free hS hA
  refine va_calli (va_runS (As := [.long ((x &&& (-x)) - 1)]) (rest := []) ⟨hx, hb, hml, hown, ht⟩ (c_Lo_bitCount l dC dI cI cL cZ _ ((x &&& (-x)) - 1) ) (va_cwS 1 ht (good_S wd_2_226 wd_2_227 wd_1_18 wd_2_228) rfl rfl rfl (by decide +kernel) ⟨Nat.le_of_ble_eq_true rfl, Nat.le_of_ble_eq_true rfl⟩) ⟨fun a U g mk q => by obtain ⟨q0, q1, qP, qK, qD, qN⟩ := q; exact ⟨q0, q1, qP, va_K.moved (u := U) (U := U.calling g mk a) (Vm.Alike.refl U.vm) qK, qD, NwA.same (u := U) rfl qN⟩, fun U hU hW => ⟨rfl, by rw [hU], by rw [hU]; exact hPc, va_K.moved hW.alike hK, hDc.weaken (fun _ _ _ _ => trivial), NwA.warm hW hN⟩⟩ rfl rfl hl.1 rfl (lv_room (Nat.le_of_ble_eq_true rfl)) d_NU_least_6 ⟨Nat.le_of_ble_eq_true rfl, Nat.le_of_ble_eq_true rfl⟩) hS (fun q _ h => hFc q h) hFc (fun r3 u9 t9 H1 locs ht9 hvm hw2 hB hz1 hk1 hSn => ?_)
  replace hP : va_P (dC, dI) clA [] H1 := pu_keep hP hk1
  replace hS := hSn
  clear hSn hPc hDc hFc hk1 hz1 ht9 hvm hB
  refine W.cs (cells' := 0) (slots' := 0) rfl rfl ?_
  subst hw2
  have hP9 := hP.sub (ws' := []) [] rfl
  have hD9 := hD.sub (ws' := []) [] (by decide) rfl
  subst hQ
  exact W.iret (v := nI (pcount ((x &&& (-x)) - 1))) hx hb hr (fun t9 ht9 hW => ⟨⟨nI (pcount ((x &&& (-x)) - 1)), (), rfl, (congrArg nI (least_one hxB hk)), by rw [ht9]; exact hP9, hD9⟩, hS.F ht9⟩) hS.2.2 d_NU_least_9

set_option maxHeartbeats 4000000 in
set_option maxRecDepth 100000 in
theorem e_Pf_takenBy (l : Launch) (dC : Nat → ClassId) (dI : Nat → Nat → Nat) (cI cL cZ : ClassId) (sz : Nat) (f0 : Nat) (f1 : Nat) (f2 : Nat) (f3 : Nat) (f4 : Nat) (f5 : Nat) (f6 : Nat) (f7 : Nat) (f8 : Nat) (f9 : Nat) (f10 : Nat) (pfc : Nat) (pfe : Nat) (pfu : Int32) (pfw : Int32) (fop : Nat → Int64) (ftn : Nat → Int64) (k : Nat) (y : Int32) (L : List Nat) (pl : Nat → Nat) (hk : k < 30) (hTQ : TkQ pfc fop (ftn k) L pl) : Met l y_Pf_takenBy (Cond.code y_Pf_takenBy prog_5_method_11_code 7 (some .int) :: wsA) { frames := 2, cells := 0, slots := 0, locals := 42 } (va_Pc [.ref f0, .int (nI k), .int y] (fun U => U.heap.size = sz ∧ va_P (dC, dI) clA [(f0, .inr (2, [.int (nI pfc), .ref f1, .ref f2, .ref f3, .ref f4, .ref f5, .int (nI pfe), .ref f6, .ref f7, .ref f8, .ref f9, .ref f10, .int pfu, .int pfw])), (f7, .inl (cL, 30, .inr (.inl ftn))), (f5, .inl (cL, 8, .inr (.inl fop)))] U.heap ∧ va_K (dC, dI) clA [(cI, .int), (cL, .long), (cZ, .boolean)] U ∧ va_D (fun _ => True) [(f0, .inr (2, [.int (nI pfc), .ref f1, .ref f2, .ref f3, .ref f4, .ref f5, .int (nI pfe), .ref f6, .ref f7, .ref f8, .ref f9, .ref f10, .int pfu, .int pfw])), (f7, .inl (cL, 30, .inr (.inl ftn))), (f5, .inl (cL, 8, .inr (.inl fop)))] ∧ NwA U)) (va_Qi (fun r (_ : Unit) => (r = tkv L y)) (fun _ t => va_P (dC, dI) clA [(f0, .inr (2, [.int (nI pfc), .ref f1, .ref f2, .ref f3, .ref f4, .ref f5, .int (nI pfe), .ref f6, .ref f7, .ref f8, .ref f9, .ref f10, .int pfu, .int pfw])), (f7, .inl (cL, 30, .inr (.inl ftn))), (f5, .inl (cL, 8, .inr (.inl fop)))] t.heap ∧ va_D (va_A [(f0, .inr (2, [.int (nI pfc), .ref f1, .ref f2, .ref f3, .ref f4, .ref f5, .int (nI pfe), .ref f6, .ref f7, .ref f8, .ref f9, .ref f10, .int pfu, .int pfw])), (f7, .inl (cL, 30, .inr (.inl ftn))), (f5, .inl (cL, 8, .inr (.inl fop)))] sz) [(f0, .inr (2, [.int (nI pfc), .ref f1, .ref f2, .ref f3, .ref f4, .ref f5, .int (nI pfe), .ref f6, .ref f7, .ref f8, .ref f9, .ref f10, .int pfu, .int pfw])), (f7, .inl (cL, 30, .inr (.inl ftn))), (f5, .inl (cL, 8, .inr (.inl fop)))]) (va_A [(f0, .inr (2, [.int (nI pfc), .ref f1, .ref f2, .ref f3, .ref f4, .ref f5, .int (nI pfe), .ref f6, .ref f7, .ref f8, .ref f9, .ref f10, .int pfu, .int pfw])), (f7, .inl (cL, 30, .inr (.inl ftn))), (f5, .inl (cL, 8, .inr (.inl fop)))] sz)) 0 0 (va_A [(f0, .inr (2, [.int (nI pfc), .ref f1, .ref f2, .ref f3, .ref f4, .ref f5, .int (nI pfe), .ref f6, .ref f7, .ref f8, .ref f9, .ref f10, .int pfu, .int pfw])), (f7, .inl (cL, 30, .inr (.inl ftn))), (f5, .inl (cL, 8, .inr (.inl fop)))] sz) := by
  refine Met.ofW (cc := prog_5_method_11_code) (maxL := 7) (ret := (some .int)) (by decide) rfl ?_
  intro p e s m args below meth c s₁ B hml hv
  obtain ⟨rfl, hsz, hP, hK, hD0, hN⟩ := hv
  have hx := B.exec
  have hb := B.bytes
  have hr := B.returns
  have ht : ∀ w ∈ wsA, w.before _ s = true := fun w h => atoms_spec (ws := (Cond.code y_Pf_takenBy prog_5_method_11_code 7 (some .int) :: wsA)) B.pre w (List.mem_cons_of_mem _ h)
  have hown : s.vm.findClass "NetUnfolder$Prefix" = some m.cls := findClass_of_methodNamed B.named
  have hlocks := B.notSynchronized
  subst hsz
  have hD := hD0.self (sz := s.heap.size)
  generalize hAe : va_A [(f0, .inr (2, [.int (nI pfc), .ref f1, .ref f2, .ref f3, .ref f4, .ref f5, .int (nI pfe), .ref f6, .ref f7, .ref f8, .ref f9, .ref f10, .int pfu, .int pfw])), (f7, .inl (cL, 30, .inr (.inl ftn))), (f5, .inl (cL, 8, .inr (.inl fop)))] s.heap.size = A at hD ⊢
  have hA : ∀ q : Nat, s.heap.size ≤ q → A q := fun q h => by rw [← hAe]; exact Or.inr h
  have hS : va_S A s.heap s.heap [] := va_S.rf
  have hl := lv_entry ([.ref f0, .int (nI k), .int y]) (n := 7) (Nat.le_of_ble_eq_true rfl)
  rw [lg_entry_eq]
  generalize (lg_sl ([.ref f0, .int (nI k), .int y]) ++ List.replicate (7 - (lg_sl ([.ref f0, .int (nI k), .int y])).length) Slot.unset).toArray = ls at hl ⊢
  replace hl : lv_has ls 7 [(0, .ref f0), (1, .int (nI k)), (2, .int y)] := hl
  refine W_Q (fun Q hQ => ?_)
  refine lv_iconst (v := 0) hx hb d_Pf_takenBy_0 (by decide) ?_
  refine lv_istore_n (lv' := [(3, .int 0), (0, .ref f0), (1, .int (nI k)), (2, .int y)]) hx hb d_Pf_takenBy_1 rfl hl (by decide) rfl (fun ls hln => ?_)
  replace hl : lv_has ls 7 [(3, .int 0), (0, .ref f0), (1, .int (nI k)), (2, .int y)] := hln
  clear hln
  refine lv_iconst (v := 0) hx hb d_Pf_takenBy_2 (by decide) ?_
  refine lv_istore (lv' := [(4, .int 0), (3, .int 0), (0, .ref f0), (1, .int (nI k)), (2, .int y)]) hx hb d_Pf_takenBy_3 hl (by decide) rfl (fun ls hln => ?_)
  replace hl : lv_has ls 7 [(4, .int 0), (3, .int 0), (0, .ref f0), (1, .int (nI k)), (2, .int y)] := hln
  clear hln
  have hloop1 : ∀ (n5 : Nat) (v : Nat) (i : Nat) (hi : i ≤ 8) (hvi : v ≤ i) (hTp : TkP L pl i v) (hyv : ∀ q, q < v → ¬ y = nI q) (H : Heap) (locs : List Loc) (ls : Array Slot) (hl : lv_has ls 7 [(0, .ref f0), (1, .int (nI k)), (2, .int y), (3, .int (nI v)), (4, .int (nI i))]) (hP : va_P (dC, dI) clA [(f0, .inr (2, [.int (nI pfc), .ref f1, .ref f2, .ref f3, .ref f4, .ref f5, .int (nI pfe), .ref f6, .ref f7, .ref f8, .ref f9, .ref f10, .int pfu, .int pfw])), (f7, .inl (cL, 30, .inr (.inl ftn))), (f5, .inl (cL, 8, .inr (.inl fop)))] H) (hD : va_D A [(f0, .inr (2, [.int (nI pfc), .ref f1, .ref f2, .ref f3, .ref f4, .ref f5, .int (nI pfe), .ref f6, .ref f7, .ref f8, .ref f9, .ref f10, .int pfu, .int pfw])), (f7, .inl (cL, 30, .inr (.inl ftn))), (f5, .inl (cL, 8, .inr (.inl fop)))]) (hS : va_S A s.heap H locs) (hm5 : 8 - i < n5), W p l e (headSpec (Cond.code y_Pf_takenBy prog_5_method_11_code 7 (some .int) :: wsA) { frames := 2, cells := 0, slots := 0, locals := 42 }).room s m ([.ref f0, .int (nI k), .int y] : List Value).toArray below meth c H locs 0 0 Q (F0 m 5 ls []) := by
    clear hl hP hD hS
    intro n5
    induction n5 with
    | zero => intro v i hi hvi hTp hyv H locs ls hl hP hD hS hm; exact absurd hm (Nat.not_lt_zero _)
    | succ n5 hloop1_ih =>
      intro v i hi hvi hTp hyv H locs ls hl hP hD hS hm5
      refine lv_iload hx hb d_Pf_takenBy_5 (lv_at hl 4 rfl) ?_
      refine lv_bipush (v := 8) hx hb d_Pf_takenBy_7 (by decide) ?_
      refine lv_icmp_ge (tgt := 55) hx hb d_Pf_takenBy_9 (by decide) (fun hb2 => ?_) (fun hb2 => ?_)
      · skip
        replace hb2 := cv_le (a := 8) (b := i) (by omega) (by omega) hb2
        refine lv_iconst (v := (-1)) hx hb d_Pf_takenBy_55 (by decide) ?_
        have hP9 := hP.sub (ws' := [(f0, .inr (2, [.int (nI pfc), .ref f1, .ref f2, .ref f3, .ref f4, .ref f5, .int (nI pfe), .ref f6, .ref f7, .ref f8, .ref f9, .ref f10, .int pfu, .int pfw])), (f7, .inl (cL, 30, .inr (.inl ftn))), (f5, .inl (cL, 8, .inr (.inl fop)))]) [0, 1, 2] rfl
        have hD9 := hD.sub (ws' := [(f0, .inr (2, [.int (nI pfc), .ref f1, .ref f2, .ref f3, .ref f4, .ref f5, .int (nI pfe), .ref f6, .ref f7, .ref f8, .ref f9, .ref f10, .int pfu, .int pfw])), (f7, .inl (cL, 30, .inr (.inl ftn))), (f5, .inl (cL, 8, .inr (.inl fop)))]) [0, 1, 2] (by decide) rfl
        subst hQ
        exact W.iret (v := (-1)) hx hb hr (fun t9 ht9 hW => ⟨⟨(-1), (), rfl, (TkP.end hTQ hTp (by omega) hyv), by rw [ht9]; exact hP9, hD9⟩, hS.F ht9⟩) hS.2.2 d_Pf_takenBy_56
      · skip
        replace hb2 := cv_nle (a := 8) (b := i) (by omega) (by omega) hb2
        refine lv_aload_n hx hb d_Pf_takenBy_12 rfl (lv_at hl 0 rfl) ?_
        refine va_get (D := (dC, dI)) (ci := 2) (v := .ref f7) (C := "NetUnfolder$Prefix") (T := T_Pf) (N := 14) hx hb ht in_Pf hown hK hP 0 rfl rfl 8 (by decide) (ht _ wd_1_90) (fun _ h9 => h9) rfl d_Pf_takenBy_13 ?_
        refine lv_iload_n hx hb d_Pf_takenBy_16 rfl (lv_at hl 1 rfl) ?_
        refine na_lald (k := k) hx hb hK hP 1 1 rfl rfl (by omega) (by decide) d_Pf_takenBy_17 ?_
        refine lv_aload_n hx hb d_Pf_takenBy_18 rfl (lv_at hl 0 rfl) ?_
        refine va_get (D := (dC, dI)) (ci := 2) (v := .ref f5) (C := "NetUnfolder$Prefix") (T := T_Pf) (N := 14) hx hb ht in_Pf hown hK hP 0 rfl rfl 5 (by decide) (ht _ wd_1_79) (fun _ h9 => h9) rfl d_Pf_takenBy_19 ?_
        refine lv_iload hx hb d_Pf_takenBy_22 (lv_at hl 4 rfl) ?_
        refine na_lald (k := i) hx hb hK hP 2 1 rfl rfl (by omega) (by decide) d_Pf_takenBy_24 ?_
        refine lv_land hx hb d_Pf_takenBy_25 ?_
        refine lv_lstore (lv' := [(5, .long ((ftn k) &&& (fop i))), (0, .ref f0), (1, .int (nI k)), (2, .int y), (3, .int (nI v)), (4, .int (nI i))]) hx hb d_Pf_takenBy_26 hl (by decide) rfl (fun ls hln => ?_)
        replace hl : lv_has ls 7 [(5, .long ((ftn k) &&& (fop i))), (0, .ref f0), (1, .int (nI k)), (2, .int y), (3, .int (nI v)), (4, .int (nI i))] := hln
        clear hln
        refine lv_lload hx hb d_Pf_takenBy_28 (lv_at hl 0 rfl) ?_
        refine lv_lconst (v := 0) hx hb d_Pf_takenBy_30 (by decide) ?_
        refine W.lcmp hx hb d_Pf_takenBy_31 ?_
        refine lv_if_eq (tgt := 49) hx hb d_Pf_takenBy_32 (by decide) (fun hb3 => ?_) (fun hb3 => ?_)
        · skip
          refine lv_iinc (k := 5) (v := nI (i + 1)) (lv' := [(4, .int (nI (i + 1))), (5, .long ((ftn k) &&& (fop i))), (0, .ref f0), (1, .int (nI k)), (2, .int y), (3, .int (nI v))]) hx hb d_Pf_takenBy_49 hl rfl (nI_1 _) (by decide) rfl (fun ls hln => ?_)
          replace hl : lv_has ls 7 [(4, .int (nI (i + 1))), (5, .long ((ftn k) &&& (fop i))), (0, .ref f0), (1, .int (nI k)), (2, .int y), (3, .int (nI v))] := hln
          clear hln
          refine lv_goto (tgt := 5) hx hb d_Pf_takenBy_52 (by decide) ?_
          exact hloop1_ih v (i + 1) (by first | assumption | omega | trivial | exact AllLt.zero | exact AllN.zero | exact AllM.zero | exact Or.inl rfl | exact Or.inr rfl) (by first | assumption | omega | trivial | exact AllLt.zero | exact AllN.zero | exact AllM.zero | exact Or.inl rfl | exact Or.inr rfl) (TkP.skip hTQ hTp (by omega) ((lg_cmp_eq _ _).mp hb3)) hyv _ _ ls (lv_sub hl [2, 3, 4, 5, 0] rfl) (hP.sub [0, 1, 2] rfl) (hD.sub [0, 1, 2] (by decide) rfl) hS (by omega)
        · skip
          obtain ⟨hvl9, hpl9, h609, hB9⟩ := TkQ.one hTQ hTp (by omega) (fun q => hb3 ((lg_cmp_eq _ _).mpr q))
          refine lv_iload_n hx hb d_Pf_takenBy_35 rfl (lv_at hl 4 rfl) ?_
          refine lv_iload_n hx hb d_Pf_takenBy_36 rfl (lv_at hl 3 rfl) ?_
          refine lv_icmp_ne (tgt := 46) hx hb d_Pf_takenBy_37 (by decide) (fun hb4 => ?_) (fun hb4 => ?_)
          · skip
            refine lv_iinc (k := 4) (v := nI (v + 1)) (lv' := [(3, .int (nI (v + 1))), (5, .long ((ftn k) &&& (fop i))), (0, .ref f0), (1, .int (nI k)), (2, .int y), (4, .int (nI i))]) hx hb d_Pf_takenBy_46 hl rfl (nI_1 _) (by decide) rfl (fun ls hln => ?_)
            replace hl : lv_has ls 7 [(3, .int (nI (v + 1))), (5, .long ((ftn k) &&& (fop i))), (0, .ref f0), (1, .int (nI k)), (2, .int y), (4, .int (nI i))] := hln
            clear hln
            refine lv_iinc (k := 5) (v := nI (i + 1)) (lv' := [(4, .int (nI (i + 1))), (3, .int (nI (v + 1))), (5, .long ((ftn k) &&& (fop i))), (0, .ref f0), (1, .int (nI k)), (2, .int y)]) hx hb d_Pf_takenBy_49 hl rfl (nI_1 _) (by decide) rfl (fun ls hln => ?_)
            replace hl : lv_has ls 7 [(4, .int (nI (i + 1))), (3, .int (nI (v + 1))), (5, .long ((ftn k) &&& (fop i))), (0, .ref f0), (1, .int (nI k)), (2, .int y)] := hln
            clear hln
            refine lv_goto (tgt := 5) hx hb d_Pf_takenBy_52 (by decide) ?_
            exact hloop1_ih (v + 1) (i + 1) (by first | assumption | omega | trivial | exact AllLt.zero | exact AllN.zero | exact AllM.zero | exact Or.inl rfl | exact Or.inr rfl) (by first | assumption | omega | trivial | exact AllLt.zero | exact AllN.zero | exact AllM.zero | exact Or.inl rfl | exact Or.inr rfl) (TkP.put hTQ hTp hvl9 hpl9) (hy_s hyv hb4) _ _ ls (lv_sub hl [3, 4, 5, 1, 0] rfl) (hP.sub [0, 1, 2] rfl) (hD.sub [0, 1, 2] (by decide) rfl) hS (by omega)
          · skip
            subst hb4
            refine lv_lload hx hb d_Pf_takenBy_40 (lv_at hl 0 rfl) ?_
            have hPc : va_P (dC, dI) clA [] _ := pu_P (H := H)
            have hDc : va_D (fun _ => True) [] := pu_D
            have hFc := pu_free hS hA
            refine va_calli (va_runSN (As := [.long ((ftn k) &&& (fop i))]) (rest := []) ⟨hx, hb, hml, hown, ht⟩ (e_NU_leastS l dC dI cI cL cZ _ ((ftn k) &&& (fop i)) (L.getD v 0) hB9 (by first | assumption | omega | trivial | exact AllLt.zero | exact AllN.zero | exact AllM.zero | exact Or.inl rfl | exact Or.inr rfl)) ⟨va_cnB 1 ht (goodA wd_2_225) rfl rfl rfl hN.2.2.2.2.2.2.1 (ht _ wd_1_1) (by decide +kernel) ⟨Nat.le_of_ble_eq_true rfl, Nat.le_of_ble_eq_true rfl⟩, ht _ wd_2_224, trivial⟩ ⟨fun a U g mk q => by obtain ⟨q0, q1, qP, qK, qD, qN⟩ := q; exact ⟨q0, q1, qP, va_K.moved (u := U) (U := U.calling g mk a) (Vm.Alike.refl U.vm) qK, qD, NwA.same (u := U) rfl qN⟩, fun U hU hW => ⟨rfl, by rw [hU], by rw [hU]; exact hPc, va_K.moved hW.alike hK, hDc.weaken (fun _ _ _ _ => trivial), NwA.warm hW hN⟩⟩ rfl rfl hl.1 rfl (lv_room (Nat.le_of_ble_eq_true rfl)) d_Pf_takenBy_42 ⟨Nat.le_of_ble_eq_true rfl, Nat.le_of_ble_eq_true rfl⟩) hS (fun q _ h => hFc q h) hFc (fun r7 u9 t9 H5 locs ht9 hvm hw6 hB hz1 hk1 hSn => ?_)
            replace hP : va_P (dC, dI) clA [(f0, .inr (2, [.int (nI pfc), .ref f1, .ref f2, .ref f3, .ref f4, .ref f5, .int (nI pfe), .ref f6, .ref f7, .ref f8, .ref f9, .ref f10, .int pfu, .int pfw])), (f7, .inl (cL, 30, .inr (.inl ftn))), (f5, .inl (cL, 8, .inr (.inl fop)))] H5 := pu_keep hP hk1
            replace hS := hSn
            clear hSn hPc hDc hFc hk1 hz1 ht9 hvm hB
            refine W.cs (cells' := 0) (slots' := 0) rfl rfl ?_
            subst hw6
            have hP9 := hP.sub (ws' := [(f0, .inr (2, [.int (nI pfc), .ref f1, .ref f2, .ref f3, .ref f4, .ref f5, .int (nI pfe), .ref f6, .ref f7, .ref f8, .ref f9, .ref f10, .int pfu, .int pfw])), (f7, .inl (cL, 30, .inr (.inl ftn))), (f5, .inl (cL, 8, .inr (.inl fop)))]) [0, 1, 2] rfl
            have hD9 := hD.sub (ws' := [(f0, .inr (2, [.int (nI pfc), .ref f1, .ref f2, .ref f3, .ref f4, .ref f5, .int (nI pfe), .ref f6, .ref f7, .ref f8, .ref f9, .ref f10, .int pfu, .int pfw])), (f7, .inl (cL, 30, .inr (.inl ftn))), (f5, .inl (cL, 8, .inr (.inl fop)))]) [0, 1, 2] (by decide) rfl
            subst hQ
            exact W.iret (v := nI (L.getD v 0)) hx hb hr (fun t9 ht9 hW => ⟨⟨nI (L.getD v 0), (), rfl, (tkv_in hTQ hvl9), by rw [ht9]; exact hP9, hD9⟩, hS.F ht9⟩) hS.2.2 d_Pf_takenBy_45
  exact hloop1 ((8 - 0) + 1) 0 0 (by first | assumption | omega | trivial | exact AllLt.zero | exact AllN.zero | exact AllM.zero | exact Or.inl rfl | exact Or.inr rfl) (by first | assumption | omega | trivial | exact AllLt.zero | exact AllN.zero | exact AllM.zero | exact Or.inl rfl | exact Or.inr rfl) TkP.zero (fun q hq => absurd hq (Nat.not_lt_zero q)) _ _ ls (lv_sub hl [2, 3, 4, 1, 0] rfl) hP hD hS (Nat.lt_succ_self _)

set_option maxHeartbeats 4000000 in
set_option maxRecDepth 100000 in
theorem e_NU_takes (l : Launch) (dC : Nat → ClassId) (dI : Nat → Nat → Nat) (cI cL cZ : ClassId) (sz : Nat) (x0 : Nat) (u0 : Nat) (n0 : Nat) (w0 : Nat) (f0 : Nat) (f1 : Nat) (f2 : Nat) (f3 : Nat) (f4 : Nat) (f5 : Nat) (f6 : Nat) (f7 : Nat) (f8 : Nat) (f9 : Nat) (f10 : Nat) (pfc : Nat) (pfe : Nat) (pfu : Int32) (pfw : Int32) (fop : Nat → Int64) (ftn : Nat → Int64) (q0 : Nat) (x : Int32) (y : Int32) (LL : Nat → List Nat) (pl : Nat → Nat) (hpe : pfe ≤ 30) (hTL : ∀ a, a < pfe → TkQ pfc fop (ftn a) (LL a) pl) : Met l y_NU_takes (Cond.code y_NU_takes prog_1_method_12_code 3 (some .int) :: wsA) { frames := 3, cells := 0, slots := 0, locals := 68 } (va_Pc [.ref x0, .int x, .int y] (fun U => U.heap.size = sz ∧ va_P (dC, dI) clA [(x0, .inr (0, [.ref n0, .ref f0, .ref w0, .ref u0, .ref q0])), (f0, .inr (2, [.int (nI pfc), .ref f1, .ref f2, .ref f3, .ref f4, .ref f5, .int (nI pfe), .ref f6, .ref f7, .ref f8, .ref f9, .ref f10, .int pfu, .int pfw])), (f7, .inl (cL, 30, .inr (.inl ftn))), (f5, .inl (cL, 8, .inr (.inl fop)))] U.heap ∧ va_K (dC, dI) clA [(cI, .int), (cL, .long), (cZ, .boolean)] U ∧ va_D (fun _ => True) [(x0, .inr (0, [.ref n0, .ref f0, .ref w0, .ref u0, .ref q0])), (f0, .inr (2, [.int (nI pfc), .ref f1, .ref f2, .ref f3, .ref f4, .ref f5, .int (nI pfe), .ref f6, .ref f7, .ref f8, .ref f9, .ref f10, .int pfu, .int pfw])), (f7, .inl (cL, 30, .inr (.inl ftn))), (f5, .inl (cL, 8, .inr (.inl fop)))] ∧ NwA U)) (va_Qi (fun r (_ : Unit) => (r = tkV pfe LL x y)) (fun _ t => va_P (dC, dI) clA [(x0, .inr (0, [.ref n0, .ref f0, .ref w0, .ref u0, .ref q0])), (f0, .inr (2, [.int (nI pfc), .ref f1, .ref f2, .ref f3, .ref f4, .ref f5, .int (nI pfe), .ref f6, .ref f7, .ref f8, .ref f9, .ref f10, .int pfu, .int pfw])), (f7, .inl (cL, 30, .inr (.inl ftn))), (f5, .inl (cL, 8, .inr (.inl fop)))] t.heap ∧ va_D (va_A [(x0, .inr (0, [.ref n0, .ref f0, .ref w0, .ref u0, .ref q0])), (f0, .inr (2, [.int (nI pfc), .ref f1, .ref f2, .ref f3, .ref f4, .ref f5, .int (nI pfe), .ref f6, .ref f7, .ref f8, .ref f9, .ref f10, .int pfu, .int pfw])), (f7, .inl (cL, 30, .inr (.inl ftn))), (f5, .inl (cL, 8, .inr (.inl fop)))] sz) [(x0, .inr (0, [.ref n0, .ref f0, .ref w0, .ref u0, .ref q0])), (f0, .inr (2, [.int (nI pfc), .ref f1, .ref f2, .ref f3, .ref f4, .ref f5, .int (nI pfe), .ref f6, .ref f7, .ref f8, .ref f9, .ref f10, .int pfu, .int pfw])), (f7, .inl (cL, 30, .inr (.inl ftn))), (f5, .inl (cL, 8, .inr (.inl fop)))]) (va_A [(x0, .inr (0, [.ref n0, .ref f0, .ref w0, .ref u0, .ref q0])), (f0, .inr (2, [.int (nI pfc), .ref f1, .ref f2, .ref f3, .ref f4, .ref f5, .int (nI pfe), .ref f6, .ref f7, .ref f8, .ref f9, .ref f10, .int pfu, .int pfw])), (f7, .inl (cL, 30, .inr (.inl ftn))), (f5, .inl (cL, 8, .inr (.inl fop)))] sz)) 0 0 (va_A [(x0, .inr (0, [.ref n0, .ref f0, .ref w0, .ref u0, .ref q0])), (f0, .inr (2, [.int (nI pfc), .ref f1, .ref f2, .ref f3, .ref f4, .ref f5, .int (nI pfe), .ref f6, .ref f7, .ref f8, .ref f9, .ref f10, .int pfu, .int pfw])), (f7, .inl (cL, 30, .inr (.inl ftn))), (f5, .inl (cL, 8, .inr (.inl fop)))] sz) := by
  refine Met.ofW (cc := prog_1_method_12_code) (maxL := 3) (ret := (some .int)) (by decide) rfl ?_
  intro p e s m args below meth c s₁ B hml hv
  obtain ⟨rfl, hsz, hP, hK, hD0, hN⟩ := hv
  have hx := B.exec
  have hb := B.bytes
  have hr := B.returns
  have ht : ∀ w ∈ wsA, w.before _ s = true := fun w h => atoms_spec (ws := (Cond.code y_NU_takes prog_1_method_12_code 3 (some .int) :: wsA)) B.pre w (List.mem_cons_of_mem _ h)
  have hown : s.vm.findClass "NetUnfolder" = some m.cls := findClass_of_methodNamed B.named
  have hlocks := B.notSynchronized
  subst hsz
  have hD := hD0.self (sz := s.heap.size)
  generalize hAe : va_A [(x0, .inr (0, [.ref n0, .ref f0, .ref w0, .ref u0, .ref q0])), (f0, .inr (2, [.int (nI pfc), .ref f1, .ref f2, .ref f3, .ref f4, .ref f5, .int (nI pfe), .ref f6, .ref f7, .ref f8, .ref f9, .ref f10, .int pfu, .int pfw])), (f7, .inl (cL, 30, .inr (.inl ftn))), (f5, .inl (cL, 8, .inr (.inl fop)))] s.heap.size = A at hD ⊢
  have hA : ∀ q : Nat, s.heap.size ≤ q → A q := fun q h => by rw [← hAe]; exact Or.inr h
  have hS : va_S A s.heap s.heap [] := va_S.rf
  have hl := lv_entry ([.ref x0, .int x, .int y]) (n := 3) (Nat.le_of_ble_eq_true rfl)
  rw [lg_entry_eq]
  generalize (lg_sl ([.ref x0, .int x, .int y]) ++ List.replicate (3 - (lg_sl ([.ref x0, .int x, .int y])).length) Slot.unset).toArray = ls at hl ⊢
  replace hl : lv_has ls 3 [(0, .ref x0), (1, .int x), (2, .int y)] := hl
  refine W_Q (fun Q hQ => ?_)
  refine lv_iload_n hx hb d_NU_takes_0 rfl (lv_at hl 1 rfl) ?_
  refine lv_if_lt (tgt := 15) hx hb d_NU_takes_1 (by decide) (fun hb1 => ?_) (fun hb1 => ?_)
  · skip
    refine lv_iconst (v := (-1)) hx hb d_NU_takes_15 (by decide) ?_
    have hP9 := hP.sub (ws' := [(x0, .inr (0, [.ref n0, .ref f0, .ref w0, .ref u0, .ref q0])), (f0, .inr (2, [.int (nI pfc), .ref f1, .ref f2, .ref f3, .ref f4, .ref f5, .int (nI pfe), .ref f6, .ref f7, .ref f8, .ref f9, .ref f10, .int pfu, .int pfw])), (f7, .inl (cL, 30, .inr (.inl ftn))), (f5, .inl (cL, 8, .inr (.inl fop)))]) [0, 1, 2, 3] rfl
    have hD9 := hD.sub (ws' := [(x0, .inr (0, [.ref n0, .ref f0, .ref w0, .ref u0, .ref q0])), (f0, .inr (2, [.int (nI pfc), .ref f1, .ref f2, .ref f3, .ref f4, .ref f5, .int (nI pfe), .ref f6, .ref f7, .ref f8, .ref f9, .ref f10, .int pfu, .int pfw])), (f7, .inl (cL, 30, .inr (.inl ftn))), (f5, .inl (cL, 8, .inr (.inl fop)))]) [0, 1, 2, 3] (by decide) rfl
    subst hQ
    exact W.iret (v := (-1)) hx hb hr (fun t9 ht9 hW => ⟨⟨(-1), (), rfl, (tkV_x (Or.inl hb1)), by rw [ht9]; exact hP9, hD9⟩, hS.F ht9⟩) hS.2.2 d_NU_takes_16
  · skip
    refine lv_iload_n hx hb d_NU_takes_4 rfl (lv_at hl 1 rfl) ?_
    refine lv_aload_n hx hb d_NU_takes_5 rfl (lv_at hl 0 rfl) ?_
    refine va_get (D := (dC, dI)) (ci := 0) (v := .ref f0) (C := "NetUnfolder") (T := T_NU) (N := 5) hx hb ht in_NU hown hK hP 0 rfl rfl 1 (by decide) (ht _ wd_2_37) (fun _ h9 => h9) rfl d_NU_takes_6 ?_
    refine va_get (D := (dC, dI)) (ci := 2) (v := .int (nI pfe)) (C := "NetUnfolder$Prefix") (T := T_Pf) (N := 14) hx hb ht in_Pf hown hK hP 1 rfl rfl 6 (by decide) (ht _ wd_1_85) (fun _ h9 => h9) rfl d_NU_takes_9 ?_
    refine lv_icmp_lt (tgt := 17) hx hb d_NU_takes_12 (by decide) (fun hb2 => ?_) (fun hb2 => ?_)
    · skip
      obtain ⟨j3, j3_l, rfl⟩ := ix_of (by omega) hb1 hb2
      refine lv_aload_n hx hb d_NU_takes_17 rfl (lv_at hl 0 rfl) ?_
      refine va_get (D := (dC, dI)) (ci := 0) (v := .ref f0) (C := "NetUnfolder") (T := T_NU) (N := 5) hx hb ht in_NU hown hK hP 0 rfl rfl 1 (by decide) (ht _ wd_2_37) (fun _ h9 => h9) rfl d_NU_takes_18 ?_
      refine lv_iload_n hx hb d_NU_takes_21 rfl (lv_at hl 1 rfl) ?_
      refine lv_iload_n hx hb d_NU_takes_22 rfl (lv_at hl 2 rfl) ?_
      have hPc := hP.sub (ws' := [(f0, .inr (2, [.int (nI pfc), .ref f1, .ref f2, .ref f3, .ref f4, .ref f5, .int (nI pfe), .ref f6, .ref f7, .ref f8, .ref f9, .ref f10, .int pfu, .int pfw])), (f7, .inl (cL, 30, .inr (.inl ftn))), (f5, .inl (cL, 8, .inr (.inl fop)))]) [1, 2, 3] rfl
      have hDc := hD.sub (ws' := [(f0, .inr (2, [.int (nI pfc), .ref f1, .ref f2, .ref f3, .ref f4, .ref f5, .int (nI pfe), .ref f6, .ref f7, .ref f8, .ref f9, .ref f10, .int pfu, .int pfw])), (f7, .inl (cL, 30, .inr (.inl ftn))), (f5, .inl (cL, 8, .inr (.inl fop)))]) [1, 2, 3] (by decide) rfl
      have hFc := va_free (wc := [(f0, .inr (2, [.int (nI pfc), .ref f1, .ref f2, .ref f3, .ref f4, .ref f5, .int (nI pfe), .ref f6, .ref f7, .ref f8, .ref f9, .ref f10, .int pfu, .int pfw])), (f7, .inl (cL, 30, .inr (.inl ftn))), (f5, .inl (cL, 8, .inr (.inl fop)))]) hD hS hA [1, 2, 3] rfl
      refine va_calli (va_runV (C := "NetUnfolder$Prefix") (As := [.int (nI j3), .int y]) (rest := []) ⟨hx, hb, hml, hown, ht⟩ (e_Pf_takenBy l dC dI cI cL cZ _ f0 f1 f2 f3 f4 f5 f6 f7 f8 f9 f10 pfc pfe pfu pfw fop ftn j3 y (LL j3) pl (by first | assumption | omega | trivial | exact AllLt.zero | exact AllN.zero | exact AllM.zero | exact Or.inl rfl | exact Or.inr rfl) (hTL j3 j3_l)) (cwV 2 ht (good_V wd_2_219 wd_2_220 wd_2_221 wd_1_3 wd_2_222) rfl rfl rfl (by decide +kernel) ⟨Nat.le_of_ble_eq_true rfl, Nat.le_of_ble_eq_true rfl⟩) ⟨fun a U g mk q => by obtain ⟨q0, q1, qP, qK, qD, qN⟩ := q; exact ⟨q0, q1, qP, va_K.moved (u := U) (U := U.calling g mk a) (Vm.Alike.refl U.vm) qK, qD, NwA.same (u := U) rfl qN⟩, (va_recv (q0 := 1) (ci := 2) hK hP rfl rfl), fun U hU hW => ⟨rfl, by rw [hU], by rw [hU]; exact hPc, va_K.moved hW.alike hK, hDc.weaken (fun _ _ _ _ => trivial), NwA.warm hW hN⟩⟩ rfl rfl hl.1 rfl (lv_room (Nat.le_of_ble_eq_true rfl)) d_NU_takes_23 ⟨Nat.le_of_ble_eq_true rfl, Nat.le_of_ble_eq_true rfl⟩) hS (fun q _ h => hFc q h) hFc (fun r6 u9 t9 H4 locs ht9 hvm hw5 hB hz1 hk1 hSn => ?_)
      obtain ⟨hP1, hD1⟩ := hB
      rw [ht9] at hP1
      obtain ⟨hPn, hDn⟩ := va_join (wr := [(x0, .inr (0, [.ref n0, .ref f0, .ref w0, .ref u0, .ref q0]))]) (w1 := [(f0, .inr (2, [.int (nI pfc), .ref f1, .ref f2, .ref f3, .ref f4, .ref f5, .int (nI pfe), .ref f6, .ref f7, .ref f8, .ref f9, .ref f10, .int pfu, .int pfw])), (f7, .inl (cL, 30, .inr (.inl ftn))), (f5, .inl (cL, 8, .inr (.inl fop)))]) hP hD [1, 2, 3] [0] rfl rfl (by decide) (by decide) hk1 hFc hP1 hD1
      replace hP : va_P (dC, dI) clA [(x0, .inr (0, [.ref n0, .ref f0, .ref w0, .ref u0, .ref q0])), (f0, .inr (2, [.int (nI pfc), .ref f1, .ref f2, .ref f3, .ref f4, .ref f5, .int (nI pfe), .ref f6, .ref f7, .ref f8, .ref f9, .ref f10, .int pfu, .int pfw])), (f7, .inl (cL, 30, .inr (.inl ftn))), (f5, .inl (cL, 8, .inr (.inl fop)))] H4 := hPn
      replace hD : va_D A [(x0, .inr (0, [.ref n0, .ref f0, .ref w0, .ref u0, .ref q0])), (f0, .inr (2, [.int (nI pfc), .ref f1, .ref f2, .ref f3, .ref f4, .ref f5, .int (nI pfe), .ref f6, .ref f7, .ref f8, .ref f9, .ref f10, .int pfu, .int pfw])), (f7, .inl (cL, 30, .inr (.inl ftn))), (f5, .inl (cL, 8, .inr (.inl fop)))] := hDn
      replace hS := hSn
      clear hPn hDn hSn
      clear hPc hDc hFc hP1 hD1 hk1 hz1 ht9 hvm
      refine W.cs (cells' := 0) (slots' := 0) rfl rfl ?_
      have hr7 := hw5
      have hP9 := hP.sub (ws' := [(x0, .inr (0, [.ref n0, .ref f0, .ref w0, .ref u0, .ref q0])), (f0, .inr (2, [.int (nI pfc), .ref f1, .ref f2, .ref f3, .ref f4, .ref f5, .int (nI pfe), .ref f6, .ref f7, .ref f8, .ref f9, .ref f10, .int pfu, .int pfw])), (f7, .inl (cL, 30, .inr (.inl ftn))), (f5, .inl (cL, 8, .inr (.inl fop)))]) [0, 1, 2, 3] rfl
      have hD9 := hD.sub (ws' := [(x0, .inr (0, [.ref n0, .ref f0, .ref w0, .ref u0, .ref q0])), (f0, .inr (2, [.int (nI pfc), .ref f1, .ref f2, .ref f3, .ref f4, .ref f5, .int (nI pfe), .ref f6, .ref f7, .ref f8, .ref f9, .ref f10, .int pfu, .int pfw])), (f7, .inl (cL, 30, .inr (.inl ftn))), (f5, .inl (cL, 8, .inr (.inl fop)))]) [0, 1, 2, 3] (by decide) rfl
      subst hQ
      exact W.iret (v := r6) hx hb hr (fun t9 ht9 hW => ⟨⟨r6, (), rfl, (tkV_in j3_l (by omega) hr7), by rw [ht9]; exact hP9, hD9⟩, hS.F ht9⟩) hS.2.2 d_NU_takes_26
    · skip
      refine lv_iconst (v := (-1)) hx hb d_NU_takes_15 (by decide) ?_
      have hP9 := hP.sub (ws' := [(x0, .inr (0, [.ref n0, .ref f0, .ref w0, .ref u0, .ref q0])), (f0, .inr (2, [.int (nI pfc), .ref f1, .ref f2, .ref f3, .ref f4, .ref f5, .int (nI pfe), .ref f6, .ref f7, .ref f8, .ref f9, .ref f10, .int pfu, .int pfw])), (f7, .inl (cL, 30, .inr (.inl ftn))), (f5, .inl (cL, 8, .inr (.inl fop)))]) [0, 1, 2, 3] rfl
      have hD9 := hD.sub (ws' := [(x0, .inr (0, [.ref n0, .ref f0, .ref w0, .ref u0, .ref q0])), (f0, .inr (2, [.int (nI pfc), .ref f1, .ref f2, .ref f3, .ref f4, .ref f5, .int (nI pfe), .ref f6, .ref f7, .ref f8, .ref f9, .ref f10, .int pfu, .int pfw])), (f7, .inl (cL, 30, .inr (.inl ftn))), (f5, .inl (cL, 8, .inr (.inl fop)))]) [0, 1, 2, 3] (by decide) rfl
      subst hQ
      exact W.iret (v := (-1)) hx hb hr (fun t9 ht9 hW => ⟨⟨(-1), (), rfl, (tkV_x (Or.inr hb2)), by rw [ht9]; exact hP9, hD9⟩, hS.F ht9⟩) hS.2.2 d_NU_takes_16

set_option maxHeartbeats 4000000 in
set_option maxRecDepth 100000 in
theorem e_Mo_takes (l : Launch) (dC : Nat → ClassId) (dI : Nat → Nat → Nat) (cI cL cZ : ClassId) (sz : Nat) (m0 : Nat) (m1 : Nat) (m2 : Nat) (m3 : Nat) (m4 : Nat) (m5 : Nat) (m6 : Nat) (m7 : Nat) (m8 : Nat) (m9 : Nat) (m10 : Nat) (m11 : Nat) (m12 : Nat) (m13 : Nat) (m14 : Nat) (m15 : Nat) (m16 : Nat) (m17 : Nat) (mth : Int32) (mt : Nat) (mf : Int32) (mcd : Nat) (mev : Nat) (mwh : Int32) (mps : Int32) (mlr : Int64) (mlt : Nat) (mlm : Nat) (mln : Int32) (gtk : Nat → Int32) (x : Int32) (y : Int32) (hev : mev ≤ 30) : Met l y_Mo_takes (Cond.code y_Mo_takes prog_11_method_39_code 3 (some .int) :: wsA) { frames := 1, cells := 0, slots := 0, locals := 22 } (va_Pc [.ref m0, .int x, .int y] (fun U => U.heap.size = sz ∧ va_P (dC, dI) clA [(m0, .inr (9, [.int mth, .int (nI mt), .ref m1, .ref m2, .int mf, .int (nI mcd), .ref m3, .ref m4, .ref m5, .ref m6, .int (nI mev), .ref m7, .ref m8, .ref m9, .ref m10, .ref m11, .ref m12, .ref m13, .int mwh, .int mps, .ref m14, .ref m15, .long mlr, .int (nI mlt), .int (nI mlm), .ref m16, .int mln, .ref m17])), (m10, .inl (cI, 240, .inl gtk))] U.heap ∧ va_K (dC, dI) clA [(cI, .int), (cL, .long), (cZ, .boolean)] U ∧ va_D (fun _ => True) [(m0, .inr (9, [.int mth, .int (nI mt), .ref m1, .ref m2, .int mf, .int (nI mcd), .ref m3, .ref m4, .ref m5, .ref m6, .int (nI mev), .ref m7, .ref m8, .ref m9, .ref m10, .ref m11, .ref m12, .ref m13, .int mwh, .int mps, .ref m14, .ref m15, .long mlr, .int (nI mlt), .int (nI mlm), .ref m16, .int mln, .ref m17])), (m10, .inl (cI, 240, .inl gtk))] ∧ NwA U)) (va_Qi (fun r (_ : Unit) => (r = tmV mev gtk x y)) (fun _ t => va_P (dC, dI) clA [(m0, .inr (9, [.int 0, .int (nI mt), .ref m1, .ref m2, .int mf, .int (nI mcd), .ref m3, .ref m4, .ref m5, .ref m6, .int (nI mev), .ref m7, .ref m8, .ref m9, .ref m10, .ref m11, .ref m12, .ref m13, .int mwh, .int mps, .ref m14, .ref m15, .long mlr, .int (nI mlt), .int (nI mlm), .ref m16, .int mln, .ref m17])), (m10, .inl (cI, 240, .inl gtk))] t.heap ∧ va_D (va_A [(m0, .inr (9, [.int mth, .int (nI mt), .ref m1, .ref m2, .int mf, .int (nI mcd), .ref m3, .ref m4, .ref m5, .ref m6, .int (nI mev), .ref m7, .ref m8, .ref m9, .ref m10, .ref m11, .ref m12, .ref m13, .int mwh, .int mps, .ref m14, .ref m15, .long mlr, .int (nI mlt), .int (nI mlm), .ref m16, .int mln, .ref m17])), (m10, .inl (cI, 240, .inl gtk))] sz) [(m0, .inr (9, [.int 0, .int (nI mt), .ref m1, .ref m2, .int mf, .int (nI mcd), .ref m3, .ref m4, .ref m5, .ref m6, .int (nI mev), .ref m7, .ref m8, .ref m9, .ref m10, .ref m11, .ref m12, .ref m13, .int mwh, .int mps, .ref m14, .ref m15, .long mlr, .int (nI mlt), .int (nI mlm), .ref m16, .int mln, .ref m17])), (m10, .inl (cI, 240, .inl gtk))]) (va_A [(m0, .inr (9, [.int mth, .int (nI mt), .ref m1, .ref m2, .int mf, .int (nI mcd), .ref m3, .ref m4, .ref m5, .ref m6, .int (nI mev), .ref m7, .ref m8, .ref m9, .ref m10, .ref m11, .ref m12, .ref m13, .int mwh, .int mps, .ref m14, .ref m15, .long mlr, .int (nI mlt), .int (nI mlm), .ref m16, .int mln, .ref m17])), (m10, .inl (cI, 240, .inl gtk))] sz)) 0 0 (va_A [(m0, .inr (9, [.int mth, .int (nI mt), .ref m1, .ref m2, .int mf, .int (nI mcd), .ref m3, .ref m4, .ref m5, .ref m6, .int (nI mev), .ref m7, .ref m8, .ref m9, .ref m10, .ref m11, .ref m12, .ref m13, .int mwh, .int mps, .ref m14, .ref m15, .long mlr, .int (nI mlt), .int (nI mlm), .ref m16, .int mln, .ref m17])), (m10, .inl (cI, 240, .inl gtk))] sz) := by
  refine Met.ofW (cc := prog_11_method_39_code) (maxL := 3) (ret := (some .int)) (by decide) rfl ?_
  intro p e s m args below meth c s₁ B hml hv
  obtain ⟨rfl, hsz, hP, hK, hD0, hN⟩ := hv
  have hx := B.exec
  have hb := B.bytes
  have hr := B.returns
  have ht : ∀ w ∈ wsA, w.before _ s = true := fun w h => atoms_spec (ws := (Cond.code y_Mo_takes prog_11_method_39_code 3 (some .int) :: wsA)) B.pre w (List.mem_cons_of_mem _ h)
  have hown : s.vm.findClass "NetUnfolderModel" = some m.cls := findClass_of_methodNamed B.named
  have hlocks := B.notSynchronized
  subst hsz
  have hD := hD0.self (sz := s.heap.size)
  generalize hAe : va_A [(m0, .inr (9, [.int mth, .int (nI mt), .ref m1, .ref m2, .int mf, .int (nI mcd), .ref m3, .ref m4, .ref m5, .ref m6, .int (nI mev), .ref m7, .ref m8, .ref m9, .ref m10, .ref m11, .ref m12, .ref m13, .int mwh, .int mps, .ref m14, .ref m15, .long mlr, .int (nI mlt), .int (nI mlm), .ref m16, .int mln, .ref m17])), (m10, .inl (cI, 240, .inl gtk))] s.heap.size = A at hD ⊢
  have hA : ∀ q : Nat, s.heap.size ≤ q → A q := fun q h => by rw [← hAe]; exact Or.inr h
  have hS : va_S A s.heap s.heap [] := va_S.rf
  have hl := lv_entry ([.ref m0, .int x, .int y]) (n := 3) (Nat.le_of_ble_eq_true rfl)
  rw [lg_entry_eq]
  generalize (lg_sl ([.ref m0, .int x, .int y]) ++ List.replicate (3 - (lg_sl ([.ref m0, .int x, .int y])).length) Slot.unset).toArray = ls at hl ⊢
  replace hl : lv_has ls 3 [(0, .ref m0), (1, .int x), (2, .int y)] := hl
  refine W_Q (fun Q hQ => ?_)
  refine lv_aload_n hx hb d_Mo_takes_0 rfl (lv_at hl 0 rfl) ?_
  refine lv_iconst (v := 0) hx hb d_Mo_takes_1 (by decide) ?_
  refine va_put (D := (dC, dI)) (ci := 9) (v := .int 0) (ty := .int) (C := "NetUnfolderModel") (T := T_Mo) (N := 28) hx hb ht in_Mo ty_Mo ok_Mo nm_Mo hown hK hP hD hS 0 rfl rfl 0 (by decide) (ht _ wd_4_0) (fun _ h9 => h9) rfl (by decide +kernel) rfl rfl (Nat.le_of_ble_eq_true rfl) d_Mo_takes_2 (fun H1 locs hPn hDn hSn => ?_)
  replace hP : va_P (dC, dI) clA [(m0, .inr (9, [.int 0, .int (nI mt), .ref m1, .ref m2, .int mf, .int (nI mcd), .ref m3, .ref m4, .ref m5, .ref m6, .int (nI mev), .ref m7, .ref m8, .ref m9, .ref m10, .ref m11, .ref m12, .ref m13, .int mwh, .int mps, .ref m14, .ref m15, .long mlr, .int (nI mlt), .int (nI mlm), .ref m16, .int mln, .ref m17])), (m10, .inl (cI, 240, .inl gtk))] H1 := hPn
  replace hD : va_D A [(m0, .inr (9, [.int 0, .int (nI mt), .ref m1, .ref m2, .int mf, .int (nI mcd), .ref m3, .ref m4, .ref m5, .ref m6, .int (nI mev), .ref m7, .ref m8, .ref m9, .ref m10, .ref m11, .ref m12, .ref m13, .int mwh, .int mps, .ref m14, .ref m15, .long mlr, .int (nI mlt), .int (nI mlm), .ref m16, .int mln, .ref m17])), (m10, .inl (cI, 240, .inl gtk))] := hDn
  replace hS := hSn
  clear hPn hDn hSn
  refine lv_iload_n hx hb d_Mo_takes_5 rfl (lv_at hl 1 rfl) ?_
  refine lv_iconst (v := 0) hx hb d_Mo_takes_6 (by decide) ?_
  refine lv_aload_n hx hb d_Mo_takes_7 rfl (lv_at hl 0 rfl) ?_
  refine va_get (D := (dC, dI)) (ci := 9) (v := .int (nI mev)) (C := "NetUnfolderModel") (T := T_Mo) (N := 28) hx hb ht in_Mo hown hK hP 0 rfl rfl 10 (by decide) (ht _ wd_4_10) (fun _ h9 => h9) rfl d_Mo_takes_8 ?_
  refine lv_iconst (v := 1) hx hb d_Mo_takes_11 (by decide) ?_
  refine lv_isub hx hb d_Mo_takes_12 ?_
  have hPc : va_P (dC, dI) clA [] _ := pu_P (H := H1)
  have hDc : va_D (fun _ => True) [] := pu_D
  have hFc := pu_free hS hA
  refine va_calli (va_runS (As := [.int x, .int 0, .int ((nI mev) - 1)]) (rest := []) ⟨hx, hb, hml, hown, ht⟩ (c_Mo_outside l dC dI cI cL cZ _ x 0 ((nI mev) - 1) ) (va_cwS 3 ht (good_S wd_4_90 wd_4_91 wd_1_10 wd_4_92) rfl rfl rfl (by decide +kernel) ⟨Nat.le_of_ble_eq_true rfl, Nat.le_of_ble_eq_true rfl⟩) ⟨fun a U g mk q => by obtain ⟨q0, q1, qP, qK, qD, qN⟩ := q; exact ⟨q0, q1, qP, va_K.moved (u := U) (U := U.calling g mk a) (Vm.Alike.refl U.vm) qK, qD, NwA.same (u := U) rfl qN⟩, fun U hU hW => ⟨rfl, by rw [hU], by rw [hU]; exact hPc, va_K.moved hW.alike hK, hDc.weaken (fun _ _ _ _ => trivial), NwA.warm hW hN⟩⟩ rfl rfl hl.1 rfl (lv_room (Nat.le_of_ble_eq_true rfl)) d_Mo_takes_13 ⟨Nat.le_of_ble_eq_true rfl, Nat.le_of_ble_eq_true rfl⟩) hS (fun q _ h => hFc q h) hFc (fun r4 u9 t9 H2 locs ht9 hvm hw3 hB hz1 hk1 hSn => ?_)
  replace hP : va_P (dC, dI) clA [(m0, .inr (9, [.int 0, .int (nI mt), .ref m1, .ref m2, .int mf, .int (nI mcd), .ref m3, .ref m4, .ref m5, .ref m6, .int (nI mev), .ref m7, .ref m8, .ref m9, .ref m10, .ref m11, .ref m12, .ref m13, .int mwh, .int mps, .ref m14, .ref m15, .long mlr, .int (nI mlt), .int (nI mlm), .ref m16, .int mln, .ref m17])), (m10, .inl (cI, 240, .inl gtk))] H2 := pu_keep hP hk1
  replace hS := hSn
  clear hSn hPc hDc hFc hk1 hz1 ht9 hvm hB
  refine W.cs (cells' := 0) (slots' := 0) rfl rfl ?_
  have hr5 := hw3
  refine lv_if_ne (tgt := 29) hx hb d_Mo_takes_16 (by decide) (fun hb6 => ?_) (fun hb6 => ?_)
  · skip
    refine lv_iconst (v := (-1)) hx hb d_Mo_takes_29 (by decide) ?_
    refine lv_goto (tgt := 44) hx hb d_Mo_takes_30 (by decide) ?_
    have hP9 := hP.sub (ws' := [(m0, .inr (9, [.int 0, .int (nI mt), .ref m1, .ref m2, .int mf, .int (nI mcd), .ref m3, .ref m4, .ref m5, .ref m6, .int (nI mev), .ref m7, .ref m8, .ref m9, .ref m10, .ref m11, .ref m12, .ref m13, .int mwh, .int mps, .ref m14, .ref m15, .long mlr, .int (nI mlt), .int (nI mlm), .ref m16, .int mln, .ref m17])), (m10, .inl (cI, 240, .inl gtk))]) [0, 1] rfl
    have hD9 := hD.sub (ws' := [(m0, .inr (9, [.int 0, .int (nI mt), .ref m1, .ref m2, .int mf, .int (nI mcd), .ref m3, .ref m4, .ref m5, .ref m6, .int (nI mev), .ref m7, .ref m8, .ref m9, .ref m10, .ref m11, .ref m12, .ref m13, .int mwh, .int mps, .ref m14, .ref m15, .long mlr, .int (nI mlt), .int (nI mlm), .ref m16, .int mln, .ref m17])), (m10, .inl (cI, 240, .inl gtk))]) [0, 1] (by decide) rfl
    subst hQ
    exact W.iret (v := (-1)) hx hb hr (fun t9 ht9 hW => ⟨⟨(-1), (), rfl, (tmV_x (out_ge (by omega) (out_1 hr5 hb6))), by rw [ht9]; exact hP9, hD9⟩, hS.F ht9⟩) hS.2.2 d_Mo_takes_44
  · skip
    have ho8 := out_0 hr5 hb6
    obtain ⟨j7, j7_l, rfl⟩ := ix_out (by omega) ho8.1 ho8.2
    refine lv_iload_n hx hb d_Mo_takes_19 rfl (lv_at hl 2 rfl) ?_
    refine lv_iconst (v := 0) hx hb d_Mo_takes_20 (by decide) ?_
    refine lv_bipush (v := 7) hx hb d_Mo_takes_21 (by decide) ?_
    have hPc : va_P (dC, dI) clA [] _ := pu_P (H := H2)
    have hDc : va_D (fun _ => True) [] := pu_D
    have hFc := pu_free hS hA
    refine va_calli (va_runS (As := [.int y, .int 0, .int 7]) (rest := []) ⟨hx, hb, hml, hown, ht⟩ (c_Mo_outside l dC dI cI cL cZ _ y 0 7 ) (va_cwS 3 ht (good_S wd_4_90 wd_4_91 wd_1_10 wd_4_92) rfl rfl rfl (by decide +kernel) ⟨Nat.le_of_ble_eq_true rfl, Nat.le_of_ble_eq_true rfl⟩) ⟨fun a U g mk q => by obtain ⟨q0, q1, qP, qK, qD, qN⟩ := q; exact ⟨q0, q1, qP, va_K.moved (u := U) (U := U.calling g mk a) (Vm.Alike.refl U.vm) qK, qD, NwA.same (u := U) rfl qN⟩, fun U hU hW => ⟨rfl, by rw [hU], by rw [hU]; exact hPc, va_K.moved hW.alike hK, hDc.weaken (fun _ _ _ _ => trivial), NwA.warm hW hN⟩⟩ rfl rfl hl.1 rfl (lv_room (Nat.le_of_ble_eq_true rfl)) d_Mo_takes_23 ⟨Nat.le_of_ble_eq_true rfl, Nat.le_of_ble_eq_true rfl⟩) hS (fun q _ h => hFc q h) hFc (fun r11 u9 t9 H9 locs ht9 hvm hw10 hB hz1 hk1 hSn => ?_)
    replace hP : va_P (dC, dI) clA [(m0, .inr (9, [.int 0, .int (nI mt), .ref m1, .ref m2, .int mf, .int (nI mcd), .ref m3, .ref m4, .ref m5, .ref m6, .int (nI mev), .ref m7, .ref m8, .ref m9, .ref m10, .ref m11, .ref m12, .ref m13, .int mwh, .int mps, .ref m14, .ref m15, .long mlr, .int (nI mlt), .int (nI mlm), .ref m16, .int mln, .ref m17])), (m10, .inl (cI, 240, .inl gtk))] H9 := pu_keep hP hk1
    replace hS := hSn
    clear hSn hPc hDc hFc hk1 hz1 ht9 hvm hB
    refine W.cs (cells' := 0) (slots' := 0) rfl rfl ?_
    have hr12 := hw10
    refine lv_if_eq (tgt := 33) hx hb d_Mo_takes_26 (by decide) (fun hb13 => ?_) (fun hb13 => ?_)
    · skip
      have ho15 := out_0 hr12 hb13
      obtain ⟨j14, j14_l, rfl⟩ := ix_c (n := 7) (by omega) ho15.1 ho15.2
      refine lv_aload_n hx hb d_Mo_takes_33 rfl (lv_at hl 0 rfl) ?_
      refine va_get (D := (dC, dI)) (ci := 9) (v := .ref m10) (C := "NetUnfolderModel") (T := T_Mo) (N := 28) hx hb ht in_Mo hown hK hP 0 rfl rfl 14 (by decide) (ht _ wd_4_14) (fun _ h9 => h9) rfl d_Mo_takes_34 ?_
      refine lv_bipush (v := 8) hx hb d_Mo_takes_37 (by decide) ?_
      refine lv_iload_n hx hb d_Mo_takes_39 rfl (lv_at hl 1 rfl) ?_
      refine lv_imul hx hb d_Mo_takes_40 ?_
      refine ci_i (y := nI (8 * j7)) (cv_mul 8 j7) ?_
      refine lv_iload_n hx hb d_Mo_takes_41 rfl (lv_at hl 2 rfl) ?_
      refine lv_iadd hx hb d_Mo_takes_42 ?_
      refine ci_i (y := nI (8 * j7 + j14)) (cv_add (8 * j7) j14) ?_
      refine na_iald (k := 8 * j7 + j14) hx hb hK hP 1 0 rfl rfl (by omega) (by decide) d_Mo_takes_43 ?_
      have hP9 := hP.sub (ws' := [(m0, .inr (9, [.int 0, .int (nI mt), .ref m1, .ref m2, .int mf, .int (nI mcd), .ref m3, .ref m4, .ref m5, .ref m6, .int (nI mev), .ref m7, .ref m8, .ref m9, .ref m10, .ref m11, .ref m12, .ref m13, .int mwh, .int mps, .ref m14, .ref m15, .long mlr, .int (nI mlt), .int (nI mlm), .ref m16, .int mln, .ref m17])), (m10, .inl (cI, 240, .inl gtk))]) [0, 1] rfl
      have hD9 := hD.sub (ws' := [(m0, .inr (9, [.int 0, .int (nI mt), .ref m1, .ref m2, .int mf, .int (nI mcd), .ref m3, .ref m4, .ref m5, .ref m6, .int (nI mev), .ref m7, .ref m8, .ref m9, .ref m10, .ref m11, .ref m12, .ref m13, .int mwh, .int mps, .ref m14, .ref m15, .long mlr, .int (nI mlt), .int (nI mlm), .ref m16, .int mln, .ref m17])), (m10, .inl (cI, 240, .inl gtk))]) [0, 1] (by decide) rfl
      subst hQ
      exact W.iret (v := gtk (8 * j7 + j14)) hx hb hr (fun t9 ht9 hW => ⟨⟨gtk (8 * j7 + j14), (), rfl, (tmV_in j7_l (by omega) j14_l), by rw [ht9]; exact hP9, hD9⟩, hS.F ht9⟩) hS.2.2 d_Mo_takes_44
    · skip
      refine lv_iconst (v := (-1)) hx hb d_Mo_takes_29 (by decide) ?_
      refine lv_goto (tgt := 44) hx hb d_Mo_takes_30 (by decide) ?_
      have hP9 := hP.sub (ws' := [(m0, .inr (9, [.int 0, .int (nI mt), .ref m1, .ref m2, .int mf, .int (nI mcd), .ref m3, .ref m4, .ref m5, .ref m6, .int (nI mev), .ref m7, .ref m8, .ref m9, .ref m10, .ref m11, .ref m12, .ref m13, .int mwh, .int mps, .ref m14, .ref m15, .long mlr, .int (nI mlt), .int (nI mlm), .ref m16, .int mln, .ref m17])), (m10, .inl (cI, 240, .inl gtk))]) [0, 1] rfl
      have hD9 := hD.sub (ws' := [(m0, .inr (9, [.int 0, .int (nI mt), .ref m1, .ref m2, .int mf, .int (nI mcd), .ref m3, .ref m4, .ref m5, .ref m6, .int (nI mev), .ref m7, .ref m8, .ref m9, .ref m10, .ref m11, .ref m12, .ref m13, .int mwh, .int mps, .ref m14, .ref m15, .long mlr, .int (nI mlt), .int (nI mlm), .ref m16, .int mln, .ref m17])), (m10, .inl (cI, 240, .inl gtk))]) [0, 1] (by decide) rfl
      subst hQ
      exact W.iret (v := (-1)) hx hb hr (fun t9 ht9 hW => ⟨⟨(-1), (), rfl, (tmV_y (out_1 hr12 hb13)), by rw [ht9]; exact hP9, hD9⟩, hS.F ht9⟩) hS.2.2 d_Mo_takes_44
