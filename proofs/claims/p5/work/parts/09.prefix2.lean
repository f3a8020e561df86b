set_option maxHeartbeats 4000000 in
set_option maxRecDepth 100000 in
theorem c_Pf_addConditions (l : Launch) (dC : Nat → ClassId) (dI : Nat → Nat → Nat) (cI cL cZ : ClassId) (sz : Nat) (f0 : Nat) (f1 : Nat) (f2 : Nat) (f3 : Nat) (f4 : Nat) (f5 : Nat) (f6 : Nat) (f7 : Nat) (f8 : Nat) (f9 : Nat) (f10 : Nat) (pfc : Nat) (pfe : Nat) (pfu : Int32) (pfw : Int32) (fpl : Nat → Int32) (fmk : Nat → Int32) (ftk : Nat → Int32) (fbs : Nat → Int64) (fop : Nat → Int64) (x : Int32) (y : Int32) (z : Int64) (hpc : pfc ≤ 60) (hpl : AllLt fpl pfc 8) (hmk : AllN fmk pfc 30) (hy : y = -1 ∨ ∃ k, k < 30 ∧ y = nI k) : Met l y_Pf_addConditions (Cond.code y_Pf_addConditions prog_5_method_5_code 10 (some .long) :: wsA) { frames := 1, cells := 0, slots := 0, locals := 22 } (va_Pc [.ref f0, .int x, .int y, .long z] (fun U => U.heap.size = sz ∧ va_P (dC, dI) clA [(f0, .inr (2, [.int (nI pfc), .ref f1, .ref f2, .ref f3, .ref f4, .ref f5, .int (nI pfe), .ref f6, .ref f7, .ref f8, .ref f9, .ref f10, .int pfu, .int pfw])), (f1, .inl (cI, 60, .inl fpl)), (f2, .inl (cI, 60, .inl fmk)), (f3, .inl (cI, 60, .inl ftk)), (f4, .inl (cL, 60, .inr (.inl fbs))), (f5, .inl (cL, 8, .inr (.inl fop)))] U.heap ∧ va_K (dC, dI) clA [(cI, .int), (cL, .long), (cZ, .boolean)] U ∧ va_D (fun _ => True) [(f0, .inr (2, [.int (nI pfc), .ref f1, .ref f2, .ref f3, .ref f4, .ref f5, .int (nI pfe), .ref f6, .ref f7, .ref f8, .ref f9, .ref f10, .int pfu, .int pfw])), (f1, .inl (cI, 60, .inl fpl)), (f2, .inl (cI, 60, .inl fmk)), (f3, .inl (cI, 60, .inl ftk)), (f4, .inl (cL, 60, .inr (.inl fbs))), (f5, .inl (cL, 8, .inr (.inl fop)))] ∧ NwA U)) (va_Ql (fun r (_ : Unit) => True) (fun _ t => ∃ (pfc1 : Nat), ∃ (fpl1 : Nat → Int32), ∃ (fmk1 : Nat → Int32), ∃ (ftk1 : Nat → Int32), ∃ (fbs1 : Nat → Int64), ∃ (fop1 : Nat → Int64), (pfc1 ≤ 60) ∧ (AllLt fpl1 pfc1 8) ∧ (AllN fmk1 pfc1 30) ∧ va_P (dC, dI) clA [(f0, .inr (2, [.int (nI pfc1), .ref f1, .ref f2, .ref f3, .ref f4, .ref f5, .int (nI pfe), .ref f6, .ref f7, .ref f8, .ref f9, .ref f10, .int pfu, .int pfw])), (f1, .inl (cI, 60, .inl fpl1)), (f2, .inl (cI, 60, .inl fmk1)), (f3, .inl (cI, 60, .inl ftk1)), (f4, .inl (cL, 60, .inr (.inl fbs1))), (f5, .inl (cL, 8, .inr (.inl fop1)))] t.heap ∧ va_D (va_A [(f0, .inr (2, [.int (nI pfc), .ref f1, .ref f2, .ref f3, .ref f4, .ref f5, .int (nI pfe), .ref f6, .ref f7, .ref f8, .ref f9, .ref f10, .int pfu, .int pfw])), (f1, .inl (cI, 60, .inl fpl)), (f2, .inl (cI, 60, .inl fmk)), (f3, .inl (cI, 60, .inl ftk)), (f4, .inl (cL, 60, .inr (.inl fbs))), (f5, .inl (cL, 8, .inr (.inl fop)))] sz) [(f0, .inr (2, [.int (nI pfc1), .ref f1, .ref f2, .ref f3, .ref f4, .ref f5, .int (nI pfe), .ref f6, .ref f7, .ref f8, .ref f9, .ref f10, .int pfu, .int pfw])), (f1, .inl (cI, 60, .inl fpl1)), (f2, .inl (cI, 60, .inl fmk1)), (f3, .inl (cI, 60, .inl ftk1)), (f4, .inl (cL, 60, .inr (.inl fbs1))), (f5, .inl (cL, 8, .inr (.inl fop1)))]) (va_A [(f0, .inr (2, [.int (nI pfc), .ref f1, .ref f2, .ref f3, .ref f4, .ref f5, .int (nI pfe), .ref f6, .ref f7, .ref f8, .ref f9, .ref f10, .int pfu, .int pfw])), (f1, .inl (cI, 60, .inl fpl)), (f2, .inl (cI, 60, .inl fmk)), (f3, .inl (cI, 60, .inl ftk)), (f4, .inl (cL, 60, .inr (.inl fbs))), (f5, .inl (cL, 8, .inr (.inl fop)))] sz)) 0 0 (va_A [(f0, .inr (2, [.int (nI pfc), .ref f1, .ref f2, .ref f3, .ref f4, .ref f5, .int (nI pfe), .ref f6, .ref f7, .ref f8, .ref f9, .ref f10, .int pfu, .int pfw])), (f1, .inl (cI, 60, .inl fpl)), (f2, .inl (cI, 60, .inl fmk)), (f3, .inl (cI, 60, .inl ftk)), (f4, .inl (cL, 60, .inr (.inl fbs))), (f5, .inl (cL, 8, .inr (.inl fop)))] sz) := by
  refine Met.ofW (cc := prog_5_method_5_code) (maxL := 10) (ret := (some .long)) (by decide) rfl ?_
  intro p e s m args below meth c s₁ B hml hv
  obtain ⟨rfl, hsz, hP, hK, hD0, hN⟩ := hv
  have hx := B.exec
  have hb := B.bytes
  have hr := B.returns
  have ht : ∀ w ∈ wsA, w.before _ s = true := fun w h => atoms_spec (ws := (Cond.code y_Pf_addConditions prog_5_method_5_code 10 (some .long) :: wsA)) B.pre w (List.mem_cons_of_mem _ h)
  have hown : s.vm.findClass "NetUnfolder$Prefix" = some m.cls := findClass_of_methodNamed B.named
  have hlocks := B.notSynchronized
  subst hsz
  have hD := hD0.self (sz := s.heap.size)
  generalize hAe : va_A [(f0, .inr (2, [.int (nI pfc), .ref f1, .ref f2, .ref f3, .ref f4, .ref f5, .int (nI pfe), .ref f6, .ref f7, .ref f8, .ref f9, .ref f10, .int pfu, .int pfw])), (f1, .inl (cI, 60, .inl fpl)), (f2, .inl (cI, 60, .inl fmk)), (f3, .inl (cI, 60, .inl ftk)), (f4, .inl (cL, 60, .inr (.inl fbs))), (f5, .inl (cL, 8, .inr (.inl fop)))] s.heap.size = A at hD ⊢
  have hA : ∀ q : Nat, s.heap.size ≤ q → A q := fun q h => by rw [← hAe]; exact Or.inr h
  have hS : va_S A s.heap s.heap [] := va_S.rf
  have hl := lv_entry ([.ref f0, .int x, .int y, .long z]) (n := 10) (Nat.le_of_ble_eq_true rfl)
  rw [lg_entry_eq]
  generalize (lg_sl ([.ref f0, .int x, .int y, .long z]) ++ List.replicate (10 - (lg_sl ([.ref f0, .int x, .int y, .long z])).length) Slot.unset).toArray = ls at hl ⊢
  replace hl : lv_has ls 10 [(0, .ref f0), (1, .int x), (2, .int y), (3, .long z)] := hl
  refine W_Q (fun Q hQ => ?_)
  refine lv_aload_n hx hb d_Pf_addConditions_0 rfl (lv_at hl 0 rfl) ?_
  have hPc := hP.sub (ws' := [(f0, .inr (2, [.int (nI pfc), .ref f1, .ref f2, .ref f3, .ref f4, .ref f5, .int (nI pfe), .ref f6, .ref f7, .ref f8, .ref f9, .ref f10, .int pfu, .int pfw]))]) [0] rfl
  have hDc := hD.sub (ws' := [(f0, .inr (2, [.int (nI pfc), .ref f1, .ref f2, .ref f3, .ref f4, .ref f5, .int (nI pfe), .ref f6, .ref f7, .ref f8, .ref f9, .ref f10, .int pfu, .int pfw]))]) [0] (by decide) rfl
  have hFc := va_free (wc := [(f0, .inr (2, [.int (nI pfc), .ref f1, .ref f2, .ref f3, .ref f4, .ref f5, .int (nI pfe), .ref f6, .ref f7, .ref f8, .ref f9, .ref f10, .int pfu, .int pfw]))]) hD hS hA [0] rfl
  refine va_calll (va_runV (C := "NetUnfolder$Prefix") (As := []) (rest := []) ⟨hx, hb, hml, hown, ht⟩ (c_Pf_allConditions l dC dI cI cL cZ _ f0 f1 f2 f3 f4 f5 f6 f7 f8 f9 f10 pfc pfe pfu pfw ) (cwV 0 ht (good_V wd_2_96 wd_2_97 wd_2_98 wd_1_3 wd_2_99) rfl rfl rfl (by decide +kernel) ⟨Nat.le_of_ble_eq_true rfl, Nat.le_of_ble_eq_true rfl⟩) ⟨fun a U g mk q => by obtain ⟨q0, q1, qP, qK, qD, qN⟩ := q; exact ⟨q0, q1, qP, va_K.moved (u := U) (U := U.calling g mk a) (Vm.Alike.refl U.vm) qK, qD, NwA.same (u := U) rfl qN⟩, (va_recv (q0 := 0) (ci := 2) hK hP rfl rfl), fun U hU hW => ⟨rfl, by rw [hU], by rw [hU]; exact hPc, va_K.moved hW.alike hK, hDc.weaken (fun _ _ _ _ => trivial), NwA.warm hW hN⟩⟩ rfl rfl hl.1 rfl (lv_room (Nat.le_of_ble_eq_true rfl)) d_Pf_addConditions_1 ⟨Nat.le_of_ble_eq_true rfl, Nat.le_of_ble_eq_true rfl⟩) hS (fun q _ h => hFc q h) hFc (fun r3 u9 t9 H1 locs ht9 hvm hw2 hB hz1 hk1 hSn => ?_)
  obtain ⟨hP1, hD1⟩ := hB
  rw [ht9] at hP1
  obtain ⟨hPn, hDn⟩ := va_join (wr := [(f1, .inl (cI, 60, .inl fpl)), (f2, .inl (cI, 60, .inl fmk)), (f3, .inl (cI, 60, .inl ftk)), (f4, .inl (cL, 60, .inr (.inl fbs))), (f5, .inl (cL, 8, .inr (.inl fop)))]) (w1 := [(f0, .inr (2, [.int (nI pfc), .ref f1, .ref f2, .ref f3, .ref f4, .ref f5, .int (nI pfe), .ref f6, .ref f7, .ref f8, .ref f9, .ref f10, .int pfu, .int pfw]))]) hP hD [0] [1, 2, 3, 4, 5] rfl rfl (by decide) (by decide) hk1 hFc hP1 hD1
  replace hP : va_P (dC, dI) clA [(f1, .inl (cI, 60, .inl fpl)), (f2, .inl (cI, 60, .inl fmk)), (f3, .inl (cI, 60, .inl ftk)), (f4, .inl (cL, 60, .inr (.inl fbs))), (f5, .inl (cL, 8, .inr (.inl fop))), (f0, .inr (2, [.int (nI pfc), .ref f1, .ref f2, .ref f3, .ref f4, .ref f5, .int (nI pfe), .ref f6, .ref f7, .ref f8, .ref f9, .ref f10, .int pfu, .int pfw]))] H1 := hPn
  replace hD : va_D A [(f1, .inl (cI, 60, .inl fpl)), (f2, .inl (cI, 60, .inl fmk)), (f3, .inl (cI, 60, .inl ftk)), (f4, .inl (cL, 60, .inr (.inl fbs))), (f5, .inl (cL, 8, .inr (.inl fop))), (f0, .inr (2, [.int (nI pfc), .ref f1, .ref f2, .ref f3, .ref f4, .ref f5, .int (nI pfe), .ref f6, .ref f7, .ref f8, .ref f9, .ref f10, .int pfu, .int pfw]))] := hDn
  replace hS := hSn
  clear hPn hDn hSn
  clear hPc hDc hFc hP1 hD1 hk1 hz1 ht9 hvm
  refine W.cs (cells' := 0) (slots' := 0) rfl rfl ?_
  refine lv_lstore (lv' := [(5, .long r3), (0, .ref f0), (1, .int x), (2, .int y), (3, .long z)]) hx hb d_Pf_addConditions_4 hl (by decide) rfl (fun ls hln => ?_)
  replace hl : lv_has ls 10 [(5, .long r3), (0, .ref f0), (1, .int x), (2, .int y), (3, .long z)] := hln
  clear hln
  refine lv_iconst (v := 0) hx hb d_Pf_addConditions_6 (by decide) ?_
  refine lv_istore (lv' := [(7, .int 0), (5, .long r3), (0, .ref f0), (1, .int x), (2, .int y), (3, .long z)]) hx hb d_Pf_addConditions_7 hl (by decide) rfl (fun ls hln => ?_)
  replace hl : lv_has ls 10 [(7, .int 0), (5, .long r3), (0, .ref f0), (1, .int x), (2, .int y), (3, .long z)] := hln
  clear hln
  have hloop4 : ∀ (n9 : Nat) (bf : Int64) (i : Nat) (c2 : Nat) (fpl2 : Nat → Int32) (fmk2 : Nat → Int32) (ftk2 : Nat → Int32) (fop2 : Nat → Int64) (hi : i ≤ 8) (hc2 : c2 ≤ 60) (hc3 : pfc ≤ c2) (hpl2 : AllLt fpl2 c2 8) (hmk2 : AllN fmk2 c2 30) (H : Heap) (locs : List Loc) (ls : Array Slot) (hl : lv_has ls 10 [(0, .ref f0), (1, .int x), (2, .int y), (3, .long z), (5, .long bf), (7, .int (nI i))]) (hP : va_P (dC, dI) clA [(f1, .inl (cI, 60, .inl fpl2)), (f2, .inl (cI, 60, .inl fmk2)), (f3, .inl (cI, 60, .inl ftk2)), (f4, .inl (cL, 60, .inr (.inl fbs))), (f5, .inl (cL, 8, .inr (.inl fop2))), (f0, .inr (2, [.int (nI c2), .ref f1, .ref f2, .ref f3, .ref f4, .ref f5, .int (nI pfe), .ref f6, .ref f7, .ref f8, .ref f9, .ref f10, .int pfu, .int pfw]))] H) (hD : va_D A [(f1, .inl (cI, 60, .inl fpl2)), (f2, .inl (cI, 60, .inl fmk2)), (f3, .inl (cI, 60, .inl ftk2)), (f4, .inl (cL, 60, .inr (.inl fbs))), (f5, .inl (cL, 8, .inr (.inl fop2))), (f0, .inr (2, [.int (nI c2), .ref f1, .ref f2, .ref f3, .ref f4, .ref f5, .int (nI pfe), .ref f6, .ref f7, .ref f8, .ref f9, .ref f10, .int pfu, .int pfw]))]) (hS : va_S A s.heap H locs) (hm9 : 8 - i < n9), W p l e (headSpec (Cond.code y_Pf_addConditions prog_5_method_5_code 10 (some .long) :: wsA) { frames := 1, cells := 0, slots := 0, locals := 22 }).room s m ([.ref f0, .int x, .int y, .long z] : List Value).toArray below meth c H locs 0 0 Q (F0 m 9 ls []) := by
    clear hl hP hD hS
    intro n9
    induction n9 with
    | zero => intro bf i c2 fpl2 fmk2 ftk2 fop2 hi hc2 hc3 hpl2 hmk2 H locs ls hl hP hD hS hm; exact absurd hm (Nat.not_lt_zero _)
    | succ n9 hloop4_ih =>
      intro bf i c2 fpl2 fmk2 ftk2 fop2 hi hc2 hc3 hpl2 hmk2 H locs ls hl hP hD hS hm9
      refine lv_iload hx hb d_Pf_addConditions_9 (lv_at hl 5 rfl) ?_
      refine lv_bipush (v := 8) hx hb d_Pf_addConditions_11 (by decide) ?_
      refine lv_icmp_ge (tgt := 98) hx hb d_Pf_addConditions_13 (by decide) (fun hb5 => ?_) (fun hb5 => ?_)
      · skip
        replace hb5 := cv_le (a := 8) (b := i) (by omega) (by omega) hb5
        refine lv_aload_n hx hb d_Pf_addConditions_98 rfl (lv_at hl 0 rfl) ?_
        have hPc := hP.sub (ws' := [(f0, .inr (2, [.int (nI c2), .ref f1, .ref f2, .ref f3, .ref f4, .ref f5, .int (nI pfe), .ref f6, .ref f7, .ref f8, .ref f9, .ref f10, .int pfu, .int pfw]))]) [5] rfl
        have hDc := hD.sub (ws' := [(f0, .inr (2, [.int (nI c2), .ref f1, .ref f2, .ref f3, .ref f4, .ref f5, .int (nI pfe), .ref f6, .ref f7, .ref f8, .ref f9, .ref f10, .int pfu, .int pfw]))]) [5] (by decide) rfl
        have hFc := va_free (wc := [(f0, .inr (2, [.int (nI c2), .ref f1, .ref f2, .ref f3, .ref f4, .ref f5, .int (nI pfe), .ref f6, .ref f7, .ref f8, .ref f9, .ref f10, .int pfu, .int pfw]))]) hD hS hA [5] rfl
        refine va_calll (va_runV (C := "NetUnfolder$Prefix") (As := []) (rest := []) ⟨hx, hb, hml, hown, ht⟩ (c_Pf_allConditions l dC dI cI cL cZ _ f0 f1 f2 f3 f4 f5 f6 f7 f8 f9 f10 c2 pfe pfu pfw ) (cwV 0 ht (good_V wd_2_96 wd_2_97 wd_2_98 wd_1_3 wd_2_99) rfl rfl rfl (by decide +kernel) ⟨Nat.le_of_ble_eq_true rfl, Nat.le_of_ble_eq_true rfl⟩) ⟨fun a U g mk q => by obtain ⟨q0, q1, qP, qK, qD, qN⟩ := q; exact ⟨q0, q1, qP, va_K.moved (u := U) (U := U.calling g mk a) (Vm.Alike.refl U.vm) qK, qD, NwA.same (u := U) rfl qN⟩, (va_recv (q0 := 5) (ci := 2) hK hP rfl rfl), fun U hU hW => ⟨rfl, by rw [hU], by rw [hU]; exact hPc, va_K.moved hW.alike hK, hDc.weaken (fun _ _ _ _ => trivial), NwA.warm hW hN⟩⟩ rfl rfl hl.1 rfl (lv_room (Nat.le_of_ble_eq_true rfl)) d_Pf_addConditions_99 ⟨Nat.le_of_ble_eq_true rfl, Nat.le_of_ble_eq_true rfl⟩) hS (fun q _ h => hFc q h) hFc (fun r8 u9 t9 H6 locs ht9 hvm hw7 hB hz1 hk1 hSn => ?_)
        obtain ⟨hP1, hD1⟩ := hB
        rw [ht9] at hP1
        obtain ⟨hPn, hDn⟩ := va_join (wr := [(f1, .inl (cI, 60, .inl fpl2)), (f2, .inl (cI, 60, .inl fmk2)), (f3, .inl (cI, 60, .inl ftk2)), (f4, .inl (cL, 60, .inr (.inl fbs))), (f5, .inl (cL, 8, .inr (.inl fop2)))]) (w1 := [(f0, .inr (2, [.int (nI c2), .ref f1, .ref f2, .ref f3, .ref f4, .ref f5, .int (nI pfe), .ref f6, .ref f7, .ref f8, .ref f9, .ref f10, .int pfu, .int pfw]))]) hP hD [5] [0, 1, 2, 3, 4] rfl rfl (by decide) (by decide) hk1 hFc hP1 hD1
        replace hP : va_P (dC, dI) clA [(f1, .inl (cI, 60, .inl fpl2)), (f2, .inl (cI, 60, .inl fmk2)), (f3, .inl (cI, 60, .inl ftk2)), (f4, .inl (cL, 60, .inr (.inl fbs))), (f5, .inl (cL, 8, .inr (.inl fop2))), (f0, .inr (2, [.int (nI c2), .ref f1, .ref f2, .ref f3, .ref f4, .ref f5, .int (nI pfe), .ref f6, .ref f7, .ref f8, .ref f9, .ref f10, .int pfu, .int pfw]))] H6 := hPn
        replace hD : va_D A [(f1, .inl (cI, 60, .inl fpl2)), (f2, .inl (cI, 60, .inl fmk2)), (f3, .inl (cI, 60, .inl ftk2)), (f4, .inl (cL, 60, .inr (.inl fbs))), (f5, .inl (cL, 8, .inr (.inl fop2))), (f0, .inr (2, [.int (nI c2), .ref f1, .ref f2, .ref f3, .ref f4, .ref f5, .int (nI pfe), .ref f6, .ref f7, .ref f8, .ref f9, .ref f10, .int pfu, .int pfw]))] := hDn
        replace hS := hSn
        clear hPn hDn hSn
        clear hPc hDc hFc hP1 hD1 hk1 hz1 ht9 hvm
        refine W.cs (cells' := 0) (slots' := 0) rfl rfl ?_
        refine lv_lload hx hb d_Pf_addConditions_102 (lv_at hl 4 rfl) ?_
        refine lv_ldc2 hx hb hown (ht _ wd_2_103) d_Pf_addConditions_104 ?_
        refine lv_lxor hx hb d_Pf_addConditions_107 ?_
        refine lv_land hx hb d_Pf_addConditions_108 ?_
        refine lv_lstore (lv' := [(7, .long (r8 &&& (bf ^^^ (-1)))), (0, .ref f0), (1, .int x), (2, .int y), (3, .long z), (5, .long bf)]) hx hb d_Pf_addConditions_109 hl (by decide) rfl (fun ls hln => ?_)
        replace hl : lv_has ls 10 [(7, .long (r8 &&& (bf ^^^ (-1)))), (0, .ref f0), (1, .int x), (2, .int y), (3, .long z), (5, .long bf)] := hln
        clear hln
        refine lv_iconst (v := 0) hx hb d_Pf_addConditions_111 (by decide) ?_
        refine lv_istore (lv' := [(9, .int 0), (7, .long (r8 &&& (bf ^^^ (-1)))), (0, .ref f0), (1, .int x), (2, .int y), (3, .long z), (5, .long bf)]) hx hb d_Pf_addConditions_112 hl (by decide) rfl (fun ls hln => ?_)
        replace hl : lv_has ls 10 [(9, .int 0), (7, .long (r8 &&& (bf ^^^ (-1)))), (0, .ref f0), (1, .int x), (2, .int y), (3, .long z), (5, .long bf)] := hln
        clear hln
        have hloop9 : ∀ (n114 : Nat) (md : Int64) (j : Nat) (fbs2 : Nat → Int64) (hj : j ≤ c2) (H : Heap) (locs : List Loc) (ls : Array Slot) (hl : lv_has ls 10 [(0, .ref f0), (3, .long z), (7, .long md), (9, .int (nI j))]) (hP : va_P (dC, dI) clA [(f1, .inl (cI, 60, .inl fpl2)), (f2, .inl (cI, 60, .inl fmk2)), (f3, .inl (cI, 60, .inl ftk2)), (f4, .inl (cL, 60, .inr (.inl fbs2))), (f5, .inl (cL, 8, .inr (.inl fop2))), (f0, .inr (2, [.int (nI c2), .ref f1, .ref f2, .ref f3, .ref f4, .ref f5, .int (nI pfe), .ref f6, .ref f7, .ref f8, .ref f9, .ref f10, .int pfu, .int pfw]))] H) (hD : va_D A [(f1, .inl (cI, 60, .inl fpl2)), (f2, .inl (cI, 60, .inl fmk2)), (f3, .inl (cI, 60, .inl ftk2)), (f4, .inl (cL, 60, .inr (.inl fbs2))), (f5, .inl (cL, 8, .inr (.inl fop2))), (f0, .inr (2, [.int (nI c2), .ref f1, .ref f2, .ref f3, .ref f4, .ref f5, .int (nI pfe), .ref f6, .ref f7, .ref f8, .ref f9, .ref f10, .int pfu, .int pfw]))]) (hS : va_S A s.heap H locs) (hm114 : c2 - j < n114), W p l e (headSpec (Cond.code y_Pf_addConditions prog_5_method_5_code 10 (some .long) :: wsA) { frames := 1, cells := 0, slots := 0, locals := 22 }).room s m ([.ref f0, .int x, .int y, .long z] : List Value).toArray below meth c H locs 0 0 Q (F0 m 114 ls []) := by
          clear hl hP hD hS
          intro n114
          induction n114 with
          | zero => intro md j fbs2 hj H locs ls hl hP hD hS hm; exact absurd hm (Nat.not_lt_zero _)
          | succ n114 hloop9_ih =>
            intro md j fbs2 hj H locs ls hl hP hD hS hm114
            refine lv_iload hx hb d_Pf_addConditions_114 (lv_at hl 3 rfl) ?_
            refine lv_aload_n hx hb d_Pf_addConditions_116 rfl (lv_at hl 0 rfl) ?_
            refine va_get (D := (dC, dI)) (ci := 2) (v := .int (nI c2)) (C := "NetUnfolder$Prefix") (T := T_Pf) (N := 14) hx hb ht in_Pf hown hK hP 5 rfl rfl 0 (by decide) (ht _ wd_1_62) (fun _ h9 => h9) rfl d_Pf_addConditions_117 ?_
            refine lv_icmp_ge (tgt := 183) hx hb d_Pf_addConditions_120 (by decide) (fun hb10 => ?_) (fun hb10 => ?_)
            · skip
              replace hb10 := cv_le (a := c2) (b := j) (by omega) (by omega) hb10
              refine lv_lload hx hb d_Pf_addConditions_183 (lv_at hl 2 rfl) ?_
              have hP9 := hP.sub (ws' := [(f0, .inr (2, [.int (nI c2), .ref f1, .ref f2, .ref f3, .ref f4, .ref f5, .int (nI pfe), .ref f6, .ref f7, .ref f8, .ref f9, .ref f10, .int pfu, .int pfw])), (f1, .inl (cI, 60, .inl fpl2)), (f2, .inl (cI, 60, .inl fmk2)), (f3, .inl (cI, 60, .inl ftk2)), (f4, .inl (cL, 60, .inr (.inl fbs2))), (f5, .inl (cL, 8, .inr (.inl fop2)))]) [5, 0, 1, 2, 3, 4] rfl
              have hD9 := hD.sub (ws' := [(f0, .inr (2, [.int (nI c2), .ref f1, .ref f2, .ref f3, .ref f4, .ref f5, .int (nI pfe), .ref f6, .ref f7, .ref f8, .ref f9, .ref f10, .int pfu, .int pfw])), (f1, .inl (cI, 60, .inl fpl2)), (f2, .inl (cI, 60, .inl fmk2)), (f3, .inl (cI, 60, .inl ftk2)), (f4, .inl (cL, 60, .inr (.inl fbs2))), (f5, .inl (cL, 8, .inr (.inl fop2)))]) [5, 0, 1, 2, 3, 4] (by decide) rfl
              subst hQ
              exact W.lret (v := md) hx hb hr (fun t9 ht9 hW => ⟨⟨md, (), rfl, trivial, c2, fpl2, fmk2, ftk2, fbs2, fop2, (by first | assumption | omega | trivial | exact AllLt.zero | exact AllN.zero | exact Or.inl rfl | exact Or.inr rfl), (by first | assumption | omega | trivial | exact AllLt.zero | exact AllN.zero | exact Or.inl rfl | exact Or.inr rfl), (by first | assumption | omega | trivial | exact AllLt.zero | exact AllN.zero | exact Or.inl rfl | exact Or.inr rfl), by rw [ht9]; exact hP9, hD9⟩, hS.F ht9⟩) hS.2.2 d_Pf_addConditions_185
            · skip
              replace hb10 := cv_nle (a := c2) (b := j) (by omega) (by omega) hb10
              refine lv_lload hx hb d_Pf_addConditions_123 (lv_at hl 2 rfl) ?_
              refine lv_iload hx hb d_Pf_addConditions_125 (lv_at hl 3 rfl) ?_
              have hPc : va_P (dC, dI) clA [] _ := pu_P (H := H)
              have hDc : va_D (fun _ => True) [] := pu_D
              have hFc := pu_free hS hA
              refine va_calli (va_runSN (As := [.long md, .int (nI j)]) (rest := []) ⟨hx, hb, hml, hown, ht⟩ (c_NU_has l dC dI cI cL cZ _ md j (by first | assumption | omega | trivial | exact AllLt.zero | exact AllN.zero | exact Or.inl rfl | exact Or.inr rfl)) ⟨va_cnB 2 ht (goodA wd_2_102) rfl rfl rfl hN.2.2.2.2.1 (ht _ wd_1_1) (by decide +kernel) ⟨Nat.le_of_ble_eq_true rfl, Nat.le_of_ble_eq_true rfl⟩, ht _ wd_2_101, trivial⟩ ⟨fun a U g mk q => by obtain ⟨q0, q1, qP, qK, qD, qN⟩ := q; exact ⟨q0, q1, qP, va_K.moved (u := U) (U := U.calling g mk a) (Vm.Alike.refl U.vm) qK, qD, NwA.same (u := U) rfl qN⟩, fun U hU hW => ⟨rfl, by rw [hU], by rw [hU]; exact hPc, va_K.moved hW.alike hK, hDc.weaken (fun _ _ _ _ => trivial), NwA.warm hW hN⟩⟩ rfl rfl hl.1 rfl (lv_room (Nat.le_of_ble_eq_true rfl)) d_Pf_addConditions_127 ⟨Nat.le_of_ble_eq_true rfl, Nat.le_of_ble_eq_true rfl⟩) hS (fun q _ h => hFc q h) hFc (fun r13 u9 t9 H11 locs ht9 hvm hw12 hB hz1 hk1 hSn => ?_)
              replace hP : va_P (dC, dI) clA [(f1, .inl (cI, 60, .inl fpl2)), (f2, .inl (cI, 60, .inl fmk2)), (f3, .inl (cI, 60, .inl ftk2)), (f4, .inl (cL, 60, .inr (.inl fbs2))), (f5, .inl (cL, 8, .inr (.inl fop2))), (f0, .inr (2, [.int (nI c2), .ref f1, .ref f2, .ref f3, .ref f4, .ref f5, .int (nI pfe), .ref f6, .ref f7, .ref f8, .ref f9, .ref f10, .int pfu, .int pfw]))] H11 := pu_keep hP hk1
              replace hS := hSn
              clear hSn hPc hDc hFc hk1 hz1 ht9 hvm hB
              refine W.cs (cells' := 0) (slots' := 0) rfl rfl ?_
              subst hw12
              refine lv_if_eq (tgt := 156) hx hb d_Pf_addConditions_130 (by decide) (fun hb14 => ?_) (fun hb14 => ?_)
              · skip
                refine lv_lload_n hx hb d_Pf_addConditions_156 rfl (lv_at hl 1 rfl) ?_
                refine lv_iload hx hb d_Pf_addConditions_157 (lv_at hl 3 rfl) ?_
                have hPc : va_P (dC, dI) clA [] _ := pu_P (H := H11)
                have hDc : va_D (fun _ => True) [] := pu_D
                have hFc := pu_free hS hA
                refine va_calli (va_runSN (As := [.long z, .int (nI j)]) (rest := []) ⟨hx, hb, hml, hown, ht⟩ (c_NU_has l dC dI cI cL cZ _ z j (by first | assumption | omega | trivial | exact AllLt.zero | exact AllN.zero | exact Or.inl rfl | exact Or.inr rfl)) ⟨va_cnB 2 ht (goodA wd_2_102) rfl rfl rfl hN.2.2.2.2.1 (ht _ wd_1_1) (by decide +kernel) ⟨Nat.le_of_ble_eq_true rfl, Nat.le_of_ble_eq_true rfl⟩, ht _ wd_2_101, trivial⟩ ⟨fun a U g mk q => by obtain ⟨q0, q1, qP, qK, qD, qN⟩ := q; exact ⟨q0, q1, qP, va_K.moved (u := U) (U := U.calling g mk a) (Vm.Alike.refl U.vm) qK, qD, NwA.same (u := U) rfl qN⟩, fun U hU hW => ⟨rfl, by rw [hU], by rw [hU]; exact hPc, va_K.moved hW.alike hK, hDc.weaken (fun _ _ _ _ => trivial), NwA.warm hW hN⟩⟩ rfl rfl hl.1 rfl (lv_room (Nat.le_of_ble_eq_true rfl)) d_Pf_addConditions_159 ⟨Nat.le_of_ble_eq_true rfl, Nat.le_of_ble_eq_true rfl⟩) hS (fun q _ h => hFc q h) hFc (fun r17 u9 t9 H15 locs ht9 hvm hw16 hB hz1 hk1 hSn => ?_)
                replace hP : va_P (dC, dI) clA [(f1, .inl (cI, 60, .inl fpl2)), (f2, .inl (cI, 60, .inl fmk2)), (f3, .inl (cI, 60, .inl ftk2)), (f4, .inl (cL, 60, .inr (.inl fbs2))), (f5, .inl (cL, 8, .inr (.inl fop2))), (f0, .inr (2, [.int (nI c2), .ref f1, .ref f2, .ref f3, .ref f4, .ref f5, .int (nI pfe), .ref f6, .ref f7, .ref f8, .ref f9, .ref f10, .int pfu, .int pfw]))] H15 := pu_keep hP hk1
                replace hS := hSn
                clear hSn hPc hDc hFc hk1 hz1 ht9 hvm hB
                refine W.cs (cells' := 0) (slots' := 0) rfl rfl ?_
                subst hw16
                refine lv_if_eq (tgt := 177) hx hb d_Pf_addConditions_162 (by decide) (fun hb18 => ?_) (fun hb18 => ?_)
                · skip
                  refine lv_iinc (k := 3) (v := nI (j + 1)) (lv' := [(9, .int (nI (j + 1))), (0, .ref f0), (3, .long z), (7, .long md)]) hx hb d_Pf_addConditions_177 hl rfl (nI_1 _) (by decide) rfl (fun ls hln => ?_)
                  replace hl : lv_has ls 10 [(9, .int (nI (j + 1))), (0, .ref f0), (3, .long z), (7, .long md)] := hln
                  clear hln
                  refine lv_goto (tgt := 114) hx hb d_Pf_addConditions_180 (by decide) ?_
                  exact hloop9_ih md (j + 1) fbs2 (by first | assumption | omega | trivial | exact AllLt.zero | exact AllN.zero | exact Or.inl rfl | exact Or.inr rfl) _ _ ls (lv_sub hl [1, 2, 3, 0] rfl) (hP.sub [0, 1, 2, 3, 4, 5] rfl) (hD.sub [0, 1, 2, 3, 4, 5] (by decide) rfl) hS (by omega)
                · skip
                  refine lv_aload_n hx hb d_Pf_addConditions_165 rfl (lv_at hl 0 rfl) ?_
                  refine va_get (D := (dC, dI)) (ci := 2) (v := .ref f4) (C := "NetUnfolder$Prefix") (T := T_Pf) (N := 14) hx hb ht in_Pf hown hK hP 5 rfl rfl 4 (by decide) (ht _ wd_1_76) (fun _ h9 => h9) rfl d_Pf_addConditions_166 ?_
                  refine lv_iload hx hb d_Pf_addConditions_169 (lv_at hl 3 rfl) ?_
                  refine lv_dup2_11 hx hb d_Pf_addConditions_171 rfl rfl ?_
                  refine na_lald (k := j) hx hb hK hP 3 1 rfl rfl (by omega) (by decide) d_Pf_addConditions_172 ?_
                  refine lv_lload hx hb d_Pf_addConditions_173 (lv_at hl 2 rfl) ?_
                  refine lv_lor hx hb d_Pf_addConditions_175 ?_
                  refine na_last (k := j) hx hb hK hP hD hS 3 1 rfl rfl (by omega) (by decide) d_Pf_addConditions_176 (fun H19 locs hPn hDn hSn => ?_)
                  replace hP : va_P (dC, dI) clA [(f1, .inl (cI, 60, .inl fpl2)), (f2, .inl (cI, 60, .inl fmk2)), (f3, .inl (cI, 60, .inl ftk2)), (f4, .inl (cL, 60, .inr (.inl (vp_updL fbs2 j ((fbs2 j) ||| md))))), (f5, .inl (cL, 8, .inr (.inl fop2))), (f0, .inr (2, [.int (nI c2), .ref f1, .ref f2, .ref f3, .ref f4, .ref f5, .int (nI pfe), .ref f6, .ref f7, .ref f8, .ref f9, .ref f10, .int pfu, .int pfw]))] H19 := hPn
                  replace hD : va_D A [(f1, .inl (cI, 60, .inl fpl2)), (f2, .inl (cI, 60, .inl fmk2)), (f3, .inl (cI, 60, .inl ftk2)), (f4, .inl (cL, 60, .inr (.inl (vp_updL fbs2 j ((fbs2 j) ||| md))))), (f5, .inl (cL, 8, .inr (.inl fop2))), (f0, .inr (2, [.int (nI c2), .ref f1, .ref f2, .ref f3, .ref f4, .ref f5, .int (nI pfe), .ref f6, .ref f7, .ref f8, .ref f9, .ref f10, .int pfu, .int pfw]))] := hDn
                  replace hS := hSn
                  clear hPn hDn hSn
                  refine lv_iinc (k := 3) (v := nI (j + 1)) (lv' := [(9, .int (nI (j + 1))), (0, .ref f0), (3, .long z), (7, .long md)]) hx hb d_Pf_addConditions_177 hl rfl (nI_1 _) (by decide) rfl (fun ls hln => ?_)
                  replace hl : lv_has ls 10 [(9, .int (nI (j + 1))), (0, .ref f0), (3, .long z), (7, .long md)] := hln
                  clear hln
                  refine lv_goto (tgt := 114) hx hb d_Pf_addConditions_180 (by decide) ?_
                  exact hloop9_ih md (j + 1) (vp_updL fbs2 j ((fbs2 j) ||| md)) (by first | assumption | omega | trivial | exact AllLt.zero | exact AllN.zero | exact Or.inl rfl | exact Or.inr rfl) _ _ ls (lv_sub hl [1, 2, 3, 0] rfl) (hP.sub [0, 1, 2, 3, 4, 5] rfl) (hD.sub [0, 1, 2, 3, 4, 5] (by decide) rfl) hS (by omega)
              · skip
                refine lv_aload_n hx hb d_Pf_addConditions_133 rfl (lv_at hl 0 rfl) ?_
                refine va_get (D := (dC, dI)) (ci := 2) (v := .ref f4) (C := "NetUnfolder$Prefix") (T := T_Pf) (N := 14) hx hb ht in_Pf hown hK hP 5 rfl rfl 4 (by decide) (ht _ wd_1_76) (fun _ h9 => h9) rfl d_Pf_addConditions_134 ?_
                refine lv_iload hx hb d_Pf_addConditions_137 (lv_at hl 3 rfl) ?_
                refine lv_lload_n hx hb d_Pf_addConditions_139 rfl (lv_at hl 1 rfl) ?_
                refine lv_lload hx hb d_Pf_addConditions_140 (lv_at hl 2 rfl) ?_
                refine lv_lor hx hb d_Pf_addConditions_142 ?_
                refine lv_lconst (v := 1) hx hb d_Pf_addConditions_143 (by decide) ?_
                refine lv_iload hx hb d_Pf_addConditions_144 (lv_at hl 3 rfl) ?_
                refine lv_lshl (v := 1 <<< (Int32.toInt64 (nI j) &&& 63)) hx hb d_Pf_addConditions_146 rfl ?_
                refine lv_ldc2 hx hb hown (ht _ wd_2_103) d_Pf_addConditions_147 ?_
                refine lv_lxor hx hb d_Pf_addConditions_150 ?_
                refine lv_land hx hb d_Pf_addConditions_151 ?_
                refine na_last (k := j) hx hb hK hP hD hS 3 1 rfl rfl (by omega) (by decide) d_Pf_addConditions_152 (fun H20 locs hPn hDn hSn => ?_)
                replace hP : va_P (dC, dI) clA [(f1, .inl (cI, 60, .inl fpl2)), (f2, .inl (cI, 60, .inl fmk2)), (f3, .inl (cI, 60, .inl ftk2)), (f4, .inl (cL, 60, .inr (.inl (vp_updL fbs2 j ((z ||| md) &&& ((1 <<< (Int32.toInt64 (nI j) &&& 63)) ^^^ (-1))))))), (f5, .inl (cL, 8, .inr (.inl fop2))), (f0, .inr (2, [.int (nI c2), .ref f1, .ref f2, .ref f3, .ref f4, .ref f5, .int (nI pfe), .ref f6, .ref f7, .ref f8, .ref f9, .ref f10, .int pfu, .int pfw]))] H20 := hPn
                replace hD : va_D A [(f1, .inl (cI, 60, .inl fpl2)), (f2, .inl (cI, 60, .inl fmk2)), (f3, .inl (cI, 60, .inl ftk2)), (f4, .inl (cL, 60, .inr (.inl (vp_updL fbs2 j ((z ||| md) &&& ((1 <<< (Int32.toInt64 (nI j) &&& 63)) ^^^ (-1))))))), (f5, .inl (cL, 8, .inr (.inl fop2))), (f0, .inr (2, [.int (nI c2), .ref f1, .ref f2, .ref f3, .ref f4, .ref f5, .int (nI pfe), .ref f6, .ref f7, .ref f8, .ref f9, .ref f10, .int pfu, .int pfw]))] := hDn
                replace hS := hSn
                clear hPn hDn hSn
                refine lv_goto (tgt := 177) hx hb d_Pf_addConditions_153 (by decide) ?_
                refine lv_iinc (k := 3) (v := nI (j + 1)) (lv' := [(9, .int (nI (j + 1))), (0, .ref f0), (3, .long z), (7, .long md)]) hx hb d_Pf_addConditions_177 hl rfl (nI_1 _) (by decide) rfl (fun ls hln => ?_)
                replace hl : lv_has ls 10 [(9, .int (nI (j + 1))), (0, .ref f0), (3, .long z), (7, .long md)] := hln
                clear hln
                refine lv_goto (tgt := 114) hx hb d_Pf_addConditions_180 (by decide) ?_
                exact hloop9_ih md (j + 1) (vp_updL fbs2 j ((z ||| md) &&& ((1 <<< (Int32.toInt64 (nI j) &&& 63)) ^^^ (-1)))) (by first | assumption | omega | trivial | exact AllLt.zero | exact AllN.zero | exact Or.inl rfl | exact Or.inr rfl) _ _ ls (lv_sub hl [1, 2, 3, 0] rfl) (hP.sub [0, 1, 2, 3, 4, 5] rfl) (hD.sub [0, 1, 2, 3, 4, 5] (by decide) rfl) hS (by omega)
        exact hloop9 ((c2 - 0) + 1) (r8 &&& (bf ^^^ (-1))) 0 fbs (by first | assumption | omega | trivial | exact AllLt.zero | exact AllN.zero | exact Or.inl rfl | exact Or.inr rfl) _ _ ls (lv_sub hl [2, 5, 1, 0] rfl) hP hD hS (Nat.lt_succ_self _)
      · skip
        replace hb5 := cv_nle (a := 8) (b := i) (by omega) (by omega) hb5
        refine lv_iload_n hx hb d_Pf_addConditions_16 rfl (lv_at hl 1 rfl) ?_
        refine lv_i2l (v := Int32.toInt64 x) hx hb d_Pf_addConditions_17 rfl ?_
        refine lv_iload hx hb d_Pf_addConditions_18 (lv_at hl 5 rfl) ?_
        have hPc : va_P (dC, dI) clA [] _ := pu_P (H := H)
        have hDc : va_D (fun _ => True) [] := pu_D
        have hFc := pu_free hS hA
        refine va_calli (va_runSN (As := [.long (Int32.toInt64 x), .int (nI i)]) (rest := []) ⟨hx, hb, hml, hown, ht⟩ (c_NU_has l dC dI cI cL cZ _ (Int32.toInt64 x) i (by first | assumption | omega | trivial | exact AllLt.zero | exact AllN.zero | exact Or.inl rfl | exact Or.inr rfl)) ⟨va_cnB 2 ht (goodA wd_2_102) rfl rfl rfl hN.2.2.2.2.1 (ht _ wd_1_1) (by decide +kernel) ⟨Nat.le_of_ble_eq_true rfl, Nat.le_of_ble_eq_true rfl⟩, ht _ wd_2_101, trivial⟩ ⟨fun a U g mk q => by obtain ⟨q0, q1, qP, qK, qD, qN⟩ := q; exact ⟨q0, q1, qP, va_K.moved (u := U) (U := U.calling g mk a) (Vm.Alike.refl U.vm) qK, qD, NwA.same (u := U) rfl qN⟩, fun U hU hW => ⟨rfl, by rw [hU], by rw [hU]; exact hPc, va_K.moved hW.alike hK, hDc.weaken (fun _ _ _ _ => trivial), NwA.warm hW hN⟩⟩ rfl rfl hl.1 rfl (lv_room (Nat.le_of_ble_eq_true rfl)) d_Pf_addConditions_20 ⟨Nat.le_of_ble_eq_true rfl, Nat.le_of_ble_eq_true rfl⟩) hS (fun q _ h => hFc q h) hFc (fun r23 u9 t9 H21 locs ht9 hvm hw22 hB hz1 hk1 hSn => ?_)
        replace hP : va_P (dC, dI) clA [(f1, .inl (cI, 60, .inl fpl2)), (f2, .inl (cI, 60, .inl fmk2)), (f3, .inl (cI, 60, .inl ftk2)), (f4, .inl (cL, 60, .inr (.inl fbs))), (f5, .inl (cL, 8, .inr (.inl fop2))), (f0, .inr (2, [.int (nI c2), .ref f1, .ref f2, .ref f3, .ref f4, .ref f5, .int (nI pfe), .ref f6, .ref f7, .ref f8, .ref f9, .ref f10, .int pfu, .int pfw]))] H21 := pu_keep hP hk1
        replace hS := hSn
        clear hSn hPc hDc hFc hk1 hz1 ht9 hvm hB
        refine W.cs (cells' := 0) (slots' := 0) rfl rfl ?_
        subst hw22
        refine lv_if_eq (tgt := 92) hx hb d_Pf_addConditions_23 (by decide) (fun hb24 => ?_) (fun hb24 => ?_)
        · skip
          refine lv_iinc (k := 5) (v := nI (i + 1)) (lv' := [(7, .int (nI (i + 1))), (0, .ref f0), (1, .int x), (2, .int y), (3, .long z), (5, .long bf)]) hx hb d_Pf_addConditions_92 hl rfl (nI_1 _) (by decide) rfl (fun ls hln => ?_)
          replace hl : lv_has ls 10 [(7, .int (nI (i + 1))), (0, .ref f0), (1, .int x), (2, .int y), (3, .long z), (5, .long bf)] := hln
          clear hln
          refine lv_goto (tgt := 9) hx hb d_Pf_addConditions_95 (by decide) ?_
          exact hloop4_ih bf (i + 1) c2 fpl2 fmk2 ftk2 fop2 (by first | assumption | omega | trivial | exact AllLt.zero | exact AllN.zero | exact Or.inl rfl | exact Or.inr rfl) (by first | assumption | omega | trivial | exact AllLt.zero | exact AllN.zero | exact Or.inl rfl | exact Or.inr rfl) (by first | assumption | omega | trivial | exact AllLt.zero | exact AllN.zero | exact Or.inl rfl | exact Or.inr rfl) (by first | assumption | exact AllLt.push hpl2 (by omega)) (by first | assumption | exact AllN.push hmk2 hy) _ _ ls (lv_sub hl [1, 2, 3, 4, 5, 0] rfl) (hP.sub [0, 1, 2, 3, 4, 5] rfl) (hD.sub [0, 1, 2, 3, 4, 5] (by decide) rfl) hS (by omega)
        · skip
          refine lv_aload_n hx hb d_Pf_addConditions_26 rfl (lv_at hl 0 rfl) ?_
          refine va_get (D := (dC, dI)) (ci := 2) (v := .int (nI c2)) (C := "NetUnfolder$Prefix") (T := T_Pf) (N := 14) hx hb ht in_Pf hown hK hP 5 rfl rfl 0 (by decide) (ht _ wd_1_62) (fun _ h9 => h9) rfl d_Pf_addConditions_27 ?_
          refine lv_bipush (v := 60) hx hb d_Pf_addConditions_30 (by decide) ?_
          refine lv_icmp_ge (tgt := 92) hx hb d_Pf_addConditions_32 (by decide) (fun hb25 => ?_) (fun hb25 => ?_)
          · skip
            replace hb25 := cv_le (a := 60) (b := c2) (by omega) (by omega) hb25
            refine lv_iinc (k := 5) (v := nI (i + 1)) (lv' := [(7, .int (nI (i + 1))), (0, .ref f0), (1, .int x), (2, .int y), (3, .long z), (5, .long bf)]) hx hb d_Pf_addConditions_92 hl rfl (nI_1 _) (by decide) rfl (fun ls hln => ?_)
            replace hl : lv_has ls 10 [(7, .int (nI (i + 1))), (0, .ref f0), (1, .int x), (2, .int y), (3, .long z), (5, .long bf)] := hln
            clear hln
            refine lv_goto (tgt := 9) hx hb d_Pf_addConditions_95 (by decide) ?_
            exact hloop4_ih bf (i + 1) c2 fpl2 fmk2 ftk2 fop2 (by first | assumption | omega | trivial | exact AllLt.zero | exact AllN.zero | exact Or.inl rfl | exact Or.inr rfl) (by first | assumption | omega | trivial | exact AllLt.zero | exact AllN.zero | exact Or.inl rfl | exact Or.inr rfl) (by first | assumption | omega | trivial | exact AllLt.zero | exact AllN.zero | exact Or.inl rfl | exact Or.inr rfl) (by first | assumption | exact AllLt.push hpl2 (by omega)) (by first | assumption | exact AllN.push hmk2 hy) _ _ ls (lv_sub hl [1, 2, 3, 4, 5, 0] rfl) (hP.sub [0, 1, 2, 3, 4, 5] rfl) (hD.sub [0, 1, 2, 3, 4, 5] (by decide) rfl) hS (by omega)
          · skip
            replace hb25 := cv_nle (a := 60) (b := c2) (by omega) (by omega) hb25
            refine lv_aload_n hx hb d_Pf_addConditions_35 rfl (lv_at hl 0 rfl) ?_
            refine va_get (D := (dC, dI)) (ci := 2) (v := .ref f1) (C := "NetUnfolder$Prefix") (T := T_Pf) (N := 14) hx hb ht in_Pf hown hK hP 5 rfl rfl 1 (by decide) (ht _ wd_1_66) (fun _ h9 => h9) rfl d_Pf_addConditions_36 ?_
            refine lv_aload_n hx hb d_Pf_addConditions_39 rfl (lv_at hl 0 rfl) ?_
            refine va_get (D := (dC, dI)) (ci := 2) (v := .int (nI c2)) (C := "NetUnfolder$Prefix") (T := T_Pf) (N := 14) hx hb ht in_Pf hown hK hP 5 rfl rfl 0 (by decide) (ht _ wd_1_62) (fun _ h9 => h9) rfl d_Pf_addConditions_40 ?_
            refine lv_iload hx hb d_Pf_addConditions_43 (lv_at hl 5 rfl) ?_
            refine na_iast (k := c2) hx hb hK hP hD hS 0 0 rfl rfl (by omega) (by decide) d_Pf_addConditions_45 (fun H26 locs hPn hDn hSn => ?_)
            replace hP : va_P (dC, dI) clA [(f1, .inl (cI, 60, .inl (upd fpl2 c2 (nI i)))), (f2, .inl (cI, 60, .inl fmk2)), (f3, .inl (cI, 60, .inl ftk2)), (f4, .inl (cL, 60, .inr (.inl fbs))), (f5, .inl (cL, 8, .inr (.inl fop2))), (f0, .inr (2, [.int (nI c2), .ref f1, .ref f2, .ref f3, .ref f4, .ref f5, .int (nI pfe), .ref f6, .ref f7, .ref f8, .ref f9, .ref f10, .int pfu, .int pfw]))] H26 := hPn
            replace hD : va_D A [(f1, .inl (cI, 60, .inl (upd fpl2 c2 (nI i)))), (f2, .inl (cI, 60, .inl fmk2)), (f3, .inl (cI, 60, .inl ftk2)), (f4, .inl (cL, 60, .inr (.inl fbs))), (f5, .inl (cL, 8, .inr (.inl fop2))), (f0, .inr (2, [.int (nI c2), .ref f1, .ref f2, .ref f3, .ref f4, .ref f5, .int (nI pfe), .ref f6, .ref f7, .ref f8, .ref f9, .ref f10, .int pfu, .int pfw]))] := hDn
            replace hS := hSn
            clear hPn hDn hSn
            refine lv_aload_n hx hb d_Pf_addConditions_46 rfl (lv_at hl 0 rfl) ?_
            refine va_get (D := (dC, dI)) (ci := 2) (v := .ref f2) (C := "NetUnfolder$Prefix") (T := T_Pf) (N := 14) hx hb ht in_Pf hown hK hP 5 rfl rfl 2 (by decide) (ht _ wd_1_70) (fun _ h9 => h9) rfl d_Pf_addConditions_47 ?_
            refine lv_aload_n hx hb d_Pf_addConditions_50 rfl (lv_at hl 0 rfl) ?_
            refine va_get (D := (dC, dI)) (ci := 2) (v := .int (nI c2)) (C := "NetUnfolder$Prefix") (T := T_Pf) (N := 14) hx hb ht in_Pf hown hK hP 5 rfl rfl 0 (by decide) (ht _ wd_1_62) (fun _ h9 => h9) rfl d_Pf_addConditions_51 ?_
            refine lv_iload_n hx hb d_Pf_addConditions_54 rfl (lv_at hl 2 rfl) ?_
            refine na_iast (k := c2) hx hb hK hP hD hS 1 0 rfl rfl (by omega) (by decide) d_Pf_addConditions_55 (fun H27 locs hPn hDn hSn => ?_)
            replace hP : va_P (dC, dI) clA [(f1, .inl (cI, 60, .inl (upd fpl2 c2 (nI i)))), (f2, .inl (cI, 60, .inl (upd fmk2 c2 y))), (f3, .inl (cI, 60, .inl ftk2)), (f4, .inl (cL, 60, .inr (.inl fbs))), (f5, .inl (cL, 8, .inr (.inl fop2))), (f0, .inr (2, [.int (nI c2), .ref f1, .ref f2, .ref f3, .ref f4, .ref f5, .int (nI pfe), .ref f6, .ref f7, .ref f8, .ref f9, .ref f10, .int pfu, .int pfw]))] H27 := hPn
            replace hD : va_D A [(f1, .inl (cI, 60, .inl (upd fpl2 c2 (nI i)))), (f2, .inl (cI, 60, .inl (upd fmk2 c2 y))), (f3, .inl (cI, 60, .inl ftk2)), (f4, .inl (cL, 60, .inr (.inl fbs))), (f5, .inl (cL, 8, .inr (.inl fop2))), (f0, .inr (2, [.int (nI c2), .ref f1, .ref f2, .ref f3, .ref f4, .ref f5, .int (nI pfe), .ref f6, .ref f7, .ref f8, .ref f9, .ref f10, .int pfu, .int pfw]))] := hDn
            replace hS := hSn
            clear hPn hDn hSn
            refine lv_aload_n hx hb d_Pf_addConditions_56 rfl (lv_at hl 0 rfl) ?_
            refine va_get (D := (dC, dI)) (ci := 2) (v := .ref f3) (C := "NetUnfolder$Prefix") (T := T_Pf) (N := 14) hx hb ht in_Pf hown hK hP 5 rfl rfl 3 (by decide) (ht _ wd_1_73) (fun _ h9 => h9) rfl d_Pf_addConditions_57 ?_
            refine lv_aload_n hx hb d_Pf_addConditions_60 rfl (lv_at hl 0 rfl) ?_
            refine va_get (D := (dC, dI)) (ci := 2) (v := .int (nI c2)) (C := "NetUnfolder$Prefix") (T := T_Pf) (N := 14) hx hb ht in_Pf hown hK hP 5 rfl rfl 0 (by decide) (ht _ wd_1_62) (fun _ h9 => h9) rfl d_Pf_addConditions_61 ?_
            refine lv_iconst (v := 0) hx hb d_Pf_addConditions_64 (by decide) ?_
            refine na_iast (k := c2) hx hb hK hP hD hS 2 0 rfl rfl (by omega) (by decide) d_Pf_addConditions_65 (fun H28 locs hPn hDn hSn => ?_)
            replace hP : va_P (dC, dI) clA [(f1, .inl (cI, 60, .inl (upd fpl2 c2 (nI i)))), (f2, .inl (cI, 60, .inl (upd fmk2 c2 y))), (f3, .inl (cI, 60, .inl (upd ftk2 c2 0))), (f4, .inl (cL, 60, .inr (.inl fbs))), (f5, .inl (cL, 8, .inr (.inl fop2))), (f0, .inr (2, [.int (nI c2), .ref f1, .ref f2, .ref f3, .ref f4, .ref f5, .int (nI pfe), .ref f6, .ref f7, .ref f8, .ref f9, .ref f10, .int pfu, .int pfw]))] H28 := hPn
            replace hD : va_D A [(f1, .inl (cI, 60, .inl (upd fpl2 c2 (nI i)))), (f2, .inl (cI, 60, .inl (upd fmk2 c2 y))), (f3, .inl (cI, 60, .inl (upd ftk2 c2 0))), (f4, .inl (cL, 60, .inr (.inl fbs))), (f5, .inl (cL, 8, .inr (.inl fop2))), (f0, .inr (2, [.int (nI c2), .ref f1, .ref f2, .ref f3, .ref f4, .ref f5, .int (nI pfe), .ref f6, .ref f7, .ref f8, .ref f9, .ref f10, .int pfu, .int pfw]))] := hDn
            replace hS := hSn
            clear hPn hDn hSn
            refine lv_aload_n hx hb d_Pf_addConditions_66 rfl (lv_at hl 0 rfl) ?_
            refine va_get (D := (dC, dI)) (ci := 2) (v := .ref f5) (C := "NetUnfolder$Prefix") (T := T_Pf) (N := 14) hx hb ht in_Pf hown hK hP 5 rfl rfl 5 (by decide) (ht _ wd_1_79) (fun _ h9 => h9) rfl d_Pf_addConditions_67 ?_
            refine lv_iload hx hb d_Pf_addConditions_70 (lv_at hl 5 rfl) ?_
            refine lv_dup2_11 hx hb d_Pf_addConditions_72 rfl rfl ?_
            refine na_lald (k := i) hx hb hK hP 4 1 rfl rfl (by omega) (by decide) d_Pf_addConditions_73 ?_
            refine lv_lconst (v := 1) hx hb d_Pf_addConditions_74 (by decide) ?_
            refine lv_aload_n hx hb d_Pf_addConditions_75 rfl (lv_at hl 0 rfl) ?_
            refine va_get (D := (dC, dI)) (ci := 2) (v := .int (nI c2)) (C := "NetUnfolder$Prefix") (T := T_Pf) (N := 14) hx hb ht in_Pf hown hK hP 5 rfl rfl 0 (by decide) (ht _ wd_1_62) (fun _ h9 => h9) rfl d_Pf_addConditions_76 ?_
            refine lv_lshl (v := 1 <<< (Int32.toInt64 (nI c2) &&& 63)) hx hb d_Pf_addConditions_79 rfl ?_
            refine lv_lor hx hb d_Pf_addConditions_80 ?_
            refine na_last (k := i) hx hb hK hP hD hS 4 1 rfl rfl (by omega) (by decide) d_Pf_addConditions_81 (fun H29 locs hPn hDn hSn => ?_)
            replace hP : va_P (dC, dI) clA [(f1, .inl (cI, 60, .inl (upd fpl2 c2 (nI i)))), (f2, .inl (cI, 60, .inl (upd fmk2 c2 y))), (f3, .inl (cI, 60, .inl (upd ftk2 c2 0))), (f4, .inl (cL, 60, .inr (.inl fbs))), (f5, .inl (cL, 8, .inr (.inl (vp_updL fop2 i ((fop2 i) ||| (1 <<< (Int32.toInt64 (nI c2) &&& 63))))))), (f0, .inr (2, [.int (nI c2), .ref f1, .ref f2, .ref f3, .ref f4, .ref f5, .int (nI pfe), .ref f6, .ref f7, .ref f8, .ref f9, .ref f10, .int pfu, .int pfw]))] H29 := hPn
            replace hD : va_D A [(f1, .inl (cI, 60, .inl (upd fpl2 c2 (nI i)))), (f2, .inl (cI, 60, .inl (upd fmk2 c2 y))), (f3, .inl (cI, 60, .inl (upd ftk2 c2 0))), (f4, .inl (cL, 60, .inr (.inl fbs))), (f5, .inl (cL, 8, .inr (.inl (vp_updL fop2 i ((fop2 i) ||| (1 <<< (Int32.toInt64 (nI c2) &&& 63))))))), (f0, .inr (2, [.int (nI c2), .ref f1, .ref f2, .ref f3, .ref f4, .ref f5, .int (nI pfe), .ref f6, .ref f7, .ref f8, .ref f9, .ref f10, .int pfu, .int pfw]))] := hDn
            replace hS := hSn
            clear hPn hDn hSn
            refine lv_aload_n hx hb d_Pf_addConditions_82 rfl (lv_at hl 0 rfl) ?_
            refine lv_dup hx hb d_Pf_addConditions_83 rfl ?_
            refine va_get (D := (dC, dI)) (ci := 2) (v := .int (nI c2)) (C := "NetUnfolder$Prefix") (T := T_Pf) (N := 14) hx hb ht in_Pf hown hK hP 5 rfl rfl 0 (by decide) (ht _ wd_1_62) (fun _ h9 => h9) rfl d_Pf_addConditions_84 ?_
            refine lv_iconst (v := 1) hx hb d_Pf_addConditions_87 (by decide) ?_
            refine lv_iadd hx hb d_Pf_addConditions_88 ?_
            refine ci_i (y := nI (c2 + 1)) (cv_add c2 1) ?_
            refine va_put (D := (dC, dI)) (ci := 2) (v := .int (nI (c2 + 1))) (ty := .int) (C := "NetUnfolder$Prefix") (T := T_Pf) (N := 14) hx hb ht in_Pf ty_Pf ok_Pf nm_Pf hown hK hP hD hS 5 rfl rfl 0 (by decide) (ht _ wd_1_62) (fun _ h9 => h9) rfl (by decide +kernel) rfl rfl (Nat.le_of_ble_eq_true rfl) d_Pf_addConditions_89 (fun H30 locs hPn hDn hSn => ?_)
            replace hP : va_P (dC, dI) clA [(f1, .inl (cI, 60, .inl (upd fpl2 c2 (nI i)))), (f2, .inl (cI, 60, .inl (upd fmk2 c2 y))), (f3, .inl (cI, 60, .inl (upd ftk2 c2 0))), (f4, .inl (cL, 60, .inr (.inl fbs))), (f5, .inl (cL, 8, .inr (.inl (vp_updL fop2 i ((fop2 i) ||| (1 <<< (Int32.toInt64 (nI c2) &&& 63))))))), (f0, .inr (2, [.int (nI (c2 + 1)), .ref f1, .ref f2, .ref f3, .ref f4, .ref f5, .int (nI pfe), .ref f6, .ref f7, .ref f8, .ref f9, .ref f10, .int pfu, .int pfw]))] H30 := hPn
            replace hD : va_D A [(f1, .inl (cI, 60, .inl (upd fpl2 c2 (nI i)))), (f2, .inl (cI, 60, .inl (upd fmk2 c2 y))), (f3, .inl (cI, 60, .inl (upd ftk2 c2 0))), (f4, .inl (cL, 60, .inr (.inl fbs))), (f5, .inl (cL, 8, .inr (.inl (vp_updL fop2 i ((fop2 i) ||| (1 <<< (Int32.toInt64 (nI c2) &&& 63))))))), (f0, .inr (2, [.int (nI (c2 + 1)), .ref f1, .ref f2, .ref f3, .ref f4, .ref f5, .int (nI pfe), .ref f6, .ref f7, .ref f8, .ref f9, .ref f10, .int pfu, .int pfw]))] := hDn
            replace hS := hSn
            clear hPn hDn hSn
            refine lv_iinc (k := 5) (v := nI (i + 1)) (lv' := [(7, .int (nI (i + 1))), (0, .ref f0), (1, .int x), (2, .int y), (3, .long z), (5, .long bf)]) hx hb d_Pf_addConditions_92 hl rfl (nI_1 _) (by decide) rfl (fun ls hln => ?_)
            replace hl : lv_has ls 10 [(7, .int (nI (i + 1))), (0, .ref f0), (1, .int x), (2, .int y), (3, .long z), (5, .long bf)] := hln
            clear hln
            refine lv_goto (tgt := 9) hx hb d_Pf_addConditions_95 (by decide) ?_
            exact hloop4_ih bf (i + 1) (c2 + 1) (upd fpl2 c2 (nI i)) (upd fmk2 c2 y) (upd ftk2 c2 0) (vp_updL fop2 i ((fop2 i) ||| (1 <<< (Int32.toInt64 (nI c2) &&& 63)))) (by first | assumption | omega | trivial | exact AllLt.zero | exact AllN.zero | exact Or.inl rfl | exact Or.inr rfl) (by first | assumption | omega | trivial | exact AllLt.zero | exact AllN.zero | exact Or.inl rfl | exact Or.inr rfl) (by first | assumption | omega | trivial | exact AllLt.zero | exact AllN.zero | exact Or.inl rfl | exact Or.inr rfl) (by first | assumption | exact AllLt.push hpl2 (by omega)) (by first | assumption | exact AllN.push hmk2 hy) _ _ ls (lv_sub hl [1, 2, 3, 4, 5, 0] rfl) (hP.sub [0, 1, 2, 3, 4, 5] rfl) (hD.sub [0, 1, 2, 3, 4, 5] (by decide) rfl) hS (by omega)
  exact hloop4 ((8 - 0) + 1) r3 0 pfc fpl fmk ftk fop (by first | assumption | omega | trivial | exact AllLt.zero | exact AllN.zero | exact Or.inl rfl | exact Or.inr rfl) (by first | assumption | omega | trivial | exact AllLt.zero | exact AllN.zero | exact Or.inl rfl | exact Or.inr rfl) (by first | assumption | omega | trivial | exact AllLt.zero | exact AllN.zero | exact Or.inl rfl | exact Or.inr rfl) (by first | assumption | omega | trivial | exact AllLt.zero | exact AllN.zero | exact Or.inl rfl | exact Or.inr rfl) (by first | assumption | omega | trivial | exact AllLt.zero | exact AllN.zero | exact Or.inl rfl | exact Or.inr rfl) _ _ ls (lv_sub hl [2, 3, 4, 5, 1, 0] rfl) hP hD hS (Nat.lt_succ_self _)

set_option maxHeartbeats 4000000 in
set_option maxRecDepth 100000 in
theorem c_Pf_addEvent (l : Launch) (dC : Nat → ClassId) (dI : Nat → Nat → Nat) (cI cL cZ : ClassId) (sz : Nat) (f0 : Nat) (f1 : Nat) (f2 : Nat) (f3 : Nat) (f4 : Nat) (f5 : Nat) (f6 : Nat) (f7 : Nat) (f8 : Nat) (f9 : Nat) (f10 : Nat) (pfc : Nat) (pfe : Nat) (pfu : Int32) (pfw : Int32) (fmk : Nat → Int32) (ftk : Nat → Int32) (ftr : Nat → Int32) (ftn : Nat → Int64) (fca : Nat → Int32) (frk : Nat → Int64) (t : Nat) (x : Int64) (y : Int64) (hpc : pfc ≤ 60) (hpe : pfe < 30) (hmk : AllN fmk pfc 30) (htr : AllLt ftr pfe 8) (ht8 : t < 8) : Met l y_Pf_addEvent (Cond.code y_Pf_addEvent prog_5_method_6_code 8 (some .int) :: wsA) { frames := 2, cells := 0, slots := 0, locals := 46 } (va_Pc [.ref f0, .int (nI t), .long x, .long y] (fun U => U.heap.size = sz ∧ va_P (dC, dI) clA [(f0, .inr (2, [.int (nI pfc), .ref f1, .ref f2, .ref f3, .ref f4, .ref f5, .int (nI pfe), .ref f6, .ref f7, .ref f8, .ref f9, .ref f10, .int pfu, .int pfw])), (f2, .inl (cI, 60, .inl fmk)), (f3, .inl (cI, 60, .inl ftk)), (f6, .inl (cI, 30, .inl ftr)), (f7, .inl (cL, 30, .inr (.inl ftn))), (f8, .inl (cI, 30, .inl fca)), (f10, .inl (cL, 30, .inr (.inl frk)))] U.heap ∧ va_K (dC, dI) clA [(cI, .int), (cL, .long), (cZ, .boolean)] U ∧ va_D (fun _ => True) [(f0, .inr (2, [.int (nI pfc), .ref f1, .ref f2, .ref f3, .ref f4, .ref f5, .int (nI pfe), .ref f6, .ref f7, .ref f8, .ref f9, .ref f10, .int pfu, .int pfw])), (f2, .inl (cI, 60, .inl fmk)), (f3, .inl (cI, 60, .inl ftk)), (f6, .inl (cI, 30, .inl ftr)), (f7, .inl (cL, 30, .inr (.inl ftn))), (f8, .inl (cI, 30, .inl fca)), (f10, .inl (cL, 30, .inr (.inl frk)))] ∧ NwA U)) (va_Qi (fun r (_ : Unit) => r = nI pfe) (fun _ t => ∃ (ftk1 : Nat → Int32), ∃ (ftr1 : Nat → Int32), ∃ (ftn1 : Nat → Int64), ∃ (fca1 : Nat → Int32), ∃ (frk1 : Nat → Int64), (AllLt ftr1 (pfe + 1) 8) ∧ va_P (dC, dI) clA [(f0, .inr (2, [.int (nI pfc), .ref f1, .ref f2, .ref f3, .ref f4, .ref f5, .int (nI (pfe + 1)), .ref f6, .ref f7, .ref f8, .ref f9, .ref f10, .int pfu, .int pfw])), (f2, .inl (cI, 60, .inl fmk)), (f3, .inl (cI, 60, .inl ftk1)), (f6, .inl (cI, 30, .inl ftr1)), (f7, .inl (cL, 30, .inr (.inl ftn1))), (f8, .inl (cI, 30, .inl fca1)), (f10, .inl (cL, 30, .inr (.inl frk1)))] t.heap ∧ va_D (va_A [(f0, .inr (2, [.int (nI pfc), .ref f1, .ref f2, .ref f3, .ref f4, .ref f5, .int (nI pfe), .ref f6, .ref f7, .ref f8, .ref f9, .ref f10, .int pfu, .int pfw])), (f2, .inl (cI, 60, .inl fmk)), (f3, .inl (cI, 60, .inl ftk)), (f6, .inl (cI, 30, .inl ftr)), (f7, .inl (cL, 30, .inr (.inl ftn))), (f8, .inl (cI, 30, .inl fca)), (f10, .inl (cL, 30, .inr (.inl frk)))] sz) [(f0, .inr (2, [.int (nI pfc), .ref f1, .ref f2, .ref f3, .ref f4, .ref f5, .int (nI (pfe + 1)), .ref f6, .ref f7, .ref f8, .ref f9, .ref f10, .int pfu, .int pfw])), (f2, .inl (cI, 60, .inl fmk)), (f3, .inl (cI, 60, .inl ftk1)), (f6, .inl (cI, 30, .inl ftr1)), (f7, .inl (cL, 30, .inr (.inl ftn1))), (f8, .inl (cI, 30, .inl fca1)), (f10, .inl (cL, 30, .inr (.inl frk1)))]) (va_A [(f0, .inr (2, [.int (nI pfc), .ref f1, .ref f2, .ref f3, .ref f4, .ref f5, .int (nI pfe), .ref f6, .ref f7, .ref f8, .ref f9, .ref f10, .int pfu, .int pfw])), (f2, .inl (cI, 60, .inl fmk)), (f3, .inl (cI, 60, .inl ftk)), (f6, .inl (cI, 30, .inl ftr)), (f7, .inl (cL, 30, .inr (.inl ftn))), (f8, .inl (cI, 30, .inl fca)), (f10, .inl (cL, 30, .inr (.inl frk)))] sz)) 0 0 (va_A [(f0, .inr (2, [.int (nI pfc), .ref f1, .ref f2, .ref f3, .ref f4, .ref f5, .int (nI pfe), .ref f6, .ref f7, .ref f8, .ref f9, .ref f10, .int pfu, .int pfw])), (f2, .inl (cI, 60, .inl fmk)), (f3, .inl (cI, 60, .inl ftk)), (f6, .inl (cI, 30, .inl ftr)), (f7, .inl (cL, 30, .inr (.inl ftn))), (f8, .inl (cI, 30, .inl fca)), (f10, .inl (cL, 30, .inr (.inl frk)))] sz) := by
  refine Met.ofW (cc := prog_5_method_6_code) (maxL := 8) (ret := (some .int)) (by decide) rfl ?_
  intro p e s m args below meth c s₁ B hml hv
  obtain ⟨rfl, hsz, hP, hK, hD0, hN⟩ := hv
  have hx := B.exec
  have hb := B.bytes
  have hr := B.returns
  have ht : ∀ w ∈ wsA, w.before _ s = true := fun w h => atoms_spec (ws := (Cond.code y_Pf_addEvent prog_5_method_6_code 8 (some .int) :: wsA)) B.pre w (List.mem_cons_of_mem _ h)
  have hown : s.vm.findClass "NetUnfolder$Prefix" = some m.cls := findClass_of_methodNamed B.named
  have hlocks := B.notSynchronized
  subst hsz
  have hD := hD0.self (sz := s.heap.size)
  generalize hAe : va_A [(f0, .inr (2, [.int (nI pfc), .ref f1, .ref f2, .ref f3, .ref f4, .ref f5, .int (nI pfe), .ref f6, .ref f7, .ref f8, .ref f9, .ref f10, .int pfu, .int pfw])), (f2, .inl (cI, 60, .inl fmk)), (f3, .inl (cI, 60, .inl ftk)), (f6, .inl (cI, 30, .inl ftr)), (f7, .inl (cL, 30, .inr (.inl ftn))), (f8, .inl (cI, 30, .inl fca)), (f10, .inl (cL, 30, .inr (.inl frk)))] s.heap.size = A at hD ⊢
  have hA : ∀ q : Nat, s.heap.size ≤ q → A q := fun q h => by rw [← hAe]; exact Or.inr h
  have hS : va_S A s.heap s.heap [] := va_S.rf
  have hl := lv_entry ([.ref f0, .int (nI t), .long x, .long y]) (n := 8) (Nat.le_of_ble_eq_true rfl)
  rw [lg_entry_eq]
  generalize (lg_sl ([.ref f0, .int (nI t), .long x, .long y]) ++ List.replicate (8 - (lg_sl ([.ref f0, .int (nI t), .long x, .long y])).length) Slot.unset).toArray = ls at hl ⊢
  replace hl : lv_has ls 8 [(0, .ref f0), (1, .int (nI t)), (2, .long x), (4, .long y)] := hl
  refine W_Q (fun Q hQ => ?_)
  refine lv_aload_n hx hb d_Pf_addEvent_0 rfl (lv_at hl 0 rfl) ?_
  refine va_get (D := (dC, dI)) (ci := 2) (v := .int (nI pfe)) (C := "NetUnfolder$Prefix") (T := T_Pf) (N := 14) hx hb ht in_Pf hown hK hP 0 rfl rfl 6 (by decide) (ht _ wd_1_82) (fun _ h9 => h9) rfl d_Pf_addEvent_1 ?_
  refine lv_istore (lv' := [(6, .int (nI pfe)), (0, .ref f0), (1, .int (nI t)), (2, .long x), (4, .long y)]) hx hb d_Pf_addEvent_4 hl (by decide) rfl (fun ls hln => ?_)
  replace hl : lv_has ls 8 [(6, .int (nI pfe)), (0, .ref f0), (1, .int (nI t)), (2, .long x), (4, .long y)] := hln
  clear hln
  refine lv_aload_n hx hb d_Pf_addEvent_6 rfl (lv_at hl 1 rfl) ?_
  refine va_get (D := (dC, dI)) (ci := 2) (v := .ref f6) (C := "NetUnfolder$Prefix") (T := T_Pf) (N := 14) hx hb ht in_Pf hown hK hP 0 rfl rfl 7 (by decide) (ht _ wd_1_86) (fun _ h9 => h9) rfl d_Pf_addEvent_7 ?_
  refine lv_iload hx hb d_Pf_addEvent_10 (lv_at hl 0 rfl) ?_
  refine lv_iload_n hx hb d_Pf_addEvent_12 rfl (lv_at hl 2 rfl) ?_
  refine na_iast (k := pfe) hx hb hK hP hD hS 3 0 rfl rfl (by omega) (by decide) d_Pf_addEvent_13 (fun H1 locs hPn hDn hSn => ?_)
  replace hP : va_P (dC, dI) clA [(f0, .inr (2, [.int (nI pfc), .ref f1, .ref f2, .ref f3, .ref f4, .ref f5, .int (nI pfe), .ref f6, .ref f7, .ref f8, .ref f9, .ref f10, .int pfu, .int pfw])), (f2, .inl (cI, 60, .inl fmk)), (f3, .inl (cI, 60, .inl ftk)), (f6, .inl (cI, 30, .inl (upd ftr pfe (nI t)))), (f7, .inl (cL, 30, .inr (.inl ftn))), (f8, .inl (cI, 30, .inl fca)), (f10, .inl (cL, 30, .inr (.inl frk)))] H1 := hPn
  replace hD : va_D A [(f0, .inr (2, [.int (nI pfc), .ref f1, .ref f2, .ref f3, .ref f4, .ref f5, .int (nI pfe), .ref f6, .ref f7, .ref f8, .ref f9, .ref f10, .int pfu, .int pfw])), (f2, .inl (cI, 60, .inl fmk)), (f3, .inl (cI, 60, .inl ftk)), (f6, .inl (cI, 30, .inl (upd ftr pfe (nI t)))), (f7, .inl (cL, 30, .inr (.inl ftn))), (f8, .inl (cI, 30, .inl fca)), (f10, .inl (cL, 30, .inr (.inl frk)))] := hDn
  replace hS := hSn
  clear hPn hDn hSn
  refine lv_aload_n hx hb d_Pf_addEvent_14 rfl (lv_at hl 1 rfl) ?_
  refine va_get (D := (dC, dI)) (ci := 2) (v := .ref f7) (C := "NetUnfolder$Prefix") (T := T_Pf) (N := 14) hx hb ht in_Pf hown hK hP 0 rfl rfl 8 (by decide) (ht _ wd_1_90) (fun _ h9 => h9) rfl d_Pf_addEvent_15 ?_
  refine lv_iload hx hb d_Pf_addEvent_18 (lv_at hl 0 rfl) ?_
  refine lv_lload_n hx hb d_Pf_addEvent_20 rfl (lv_at hl 3 rfl) ?_
  refine na_last (k := pfe) hx hb hK hP hD hS 4 1 rfl rfl (by omega) (by decide) d_Pf_addEvent_21 (fun H2 locs hPn hDn hSn => ?_)
  replace hP : va_P (dC, dI) clA [(f0, .inr (2, [.int (nI pfc), .ref f1, .ref f2, .ref f3, .ref f4, .ref f5, .int (nI pfe), .ref f6, .ref f7, .ref f8, .ref f9, .ref f10, .int pfu, .int pfw])), (f2, .inl (cI, 60, .inl fmk)), (f3, .inl (cI, 60, .inl ftk)), (f6, .inl (cI, 30, .inl (upd ftr pfe (nI t)))), (f7, .inl (cL, 30, .inr (.inl (vp_updL ftn pfe x)))), (f8, .inl (cI, 30, .inl fca)), (f10, .inl (cL, 30, .inr (.inl frk)))] H2 := hPn
  replace hD : va_D A [(f0, .inr (2, [.int (nI pfc), .ref f1, .ref f2, .ref f3, .ref f4, .ref f5, .int (nI pfe), .ref f6, .ref f7, .ref f8, .ref f9, .ref f10, .int pfu, .int pfw])), (f2, .inl (cI, 60, .inl fmk)), (f3, .inl (cI, 60, .inl ftk)), (f6, .inl (cI, 30, .inl (upd ftr pfe (nI t)))), (f7, .inl (cL, 30, .inr (.inl (vp_updL ftn pfe x)))), (f8, .inl (cI, 30, .inl fca)), (f10, .inl (cL, 30, .inr (.inl frk)))] := hDn
  replace hS := hSn
  clear hPn hDn hSn
  refine lv_aload_n hx hb d_Pf_addEvent_22 rfl (lv_at hl 1 rfl) ?_
  refine va_get (D := (dC, dI)) (ci := 2) (v := .ref f8) (C := "NetUnfolder$Prefix") (T := T_Pf) (N := 14) hx hb ht in_Pf hown hK hP 0 rfl rfl 9 (by decide) (ht _ wd_1_92) (fun _ h9 => h9) rfl d_Pf_addEvent_23 ?_
  refine lv_iload hx hb d_Pf_addEvent_26 (lv_at hl 0 rfl) ?_
  refine lv_aload_n hx hb d_Pf_addEvent_28 rfl (lv_at hl 1 rfl) ?_
  refine lv_lload_n hx hb d_Pf_addEvent_29 rfl (lv_at hl 3 rfl) ?_
  have hPc := hP.sub (ws' := [(f0, .inr (2, [.int (nI pfc), .ref f1, .ref f2, .ref f3, .ref f4, .ref f5, .int (nI pfe), .ref f6, .ref f7, .ref f8, .ref f9, .ref f10, .int pfu, .int pfw])), (f2, .inl (cI, 60, .inl fmk)), (f8, .inl (cI, 30, .inl fca))]) [0, 1, 5] rfl
  have hDc := hD.sub (ws' := [(f0, .inr (2, [.int (nI pfc), .ref f1, .ref f2, .ref f3, .ref f4, .ref f5, .int (nI pfe), .ref f6, .ref f7, .ref f8, .ref f9, .ref f10, .int pfu, .int pfw])), (f2, .inl (cI, 60, .inl fmk)), (f8, .inl (cI, 30, .inl fca))]) [0, 1, 5] (by decide) rfl
  have hFc := va_free (wc := [(f0, .inr (2, [.int (nI pfc), .ref f1, .ref f2, .ref f3, .ref f4, .ref f5, .int (nI pfe), .ref f6, .ref f7, .ref f8, .ref f9, .ref f10, .int pfu, .int pfw])), (f2, .inl (cI, 60, .inl fmk)), (f8, .inl (cI, 30, .inl fca))]) hD hS hA [0, 1, 5] rfl
  refine va_calli (va_runV (C := "NetUnfolder$Prefix") (As := [.long x]) (rest := [.int (nI pfe), .ref f8]) ⟨hx, hb, hml, hown, ht⟩ (c_Pf_causesOf l dC dI cI cL cZ _ f0 f1 f2 f3 f4 f5 f6 f7 f8 f9 f10 pfc pfe pfu pfw fmk fca x (by first | assumption | omega | trivial | exact AllLt.zero | exact AllN.zero | exact Or.inl rfl | exact Or.inr rfl) (by first | assumption | omega | trivial | exact AllLt.zero | exact AllN.zero | exact Or.inl rfl | exact Or.inr rfl)) (cwV 1 ht (good_V wd_2_193 wd_2_117 wd_2_118 wd_1_3 wd_2_119) rfl rfl rfl (by decide +kernel) ⟨Nat.le_of_ble_eq_true rfl, Nat.le_of_ble_eq_true rfl⟩) ⟨fun a U g mk q => by obtain ⟨q0, q1, qP, qK, qD, qN⟩ := q; exact ⟨q0, q1, qP, va_K.moved (u := U) (U := U.calling g mk a) (Vm.Alike.refl U.vm) qK, qD, NwA.same (u := U) rfl qN⟩, (va_recv (q0 := 0) (ci := 2) hK hP rfl rfl), fun U hU hW => ⟨rfl, by rw [hU], by rw [hU]; exact hPc, va_K.moved hW.alike hK, hDc.weaken (fun _ _ _ _ => trivial), NwA.warm hW hN⟩⟩ rfl rfl hl.1 rfl (lv_room (Nat.le_of_ble_eq_true rfl)) d_Pf_addEvent_30 ⟨Nat.le_of_ble_eq_true rfl, Nat.le_of_ble_eq_true rfl⟩) hS (fun q _ h => hFc q h) hFc (fun r5 u9 t9 H3 locs ht9 hvm hw4 hB hz1 hk1 hSn => ?_)
  obtain ⟨hP1, hD1⟩ := hB
  rw [ht9] at hP1
  obtain ⟨hPn, hDn⟩ := va_join (wr := [(f3, .inl (cI, 60, .inl ftk)), (f6, .inl (cI, 30, .inl (upd ftr pfe (nI t)))), (f7, .inl (cL, 30, .inr (.inl (vp_updL ftn pfe x)))), (f10, .inl (cL, 30, .inr (.inl frk)))]) (w1 := [(f0, .inr (2, [.int (nI pfc), .ref f1, .ref f2, .ref f3, .ref f4, .ref f5, .int (nI pfe), .ref f6, .ref f7, .ref f8, .ref f9, .ref f10, .int pfu, .int pfw])), (f2, .inl (cI, 60, .inl fmk)), (f8, .inl (cI, 30, .inl fca))]) hP hD [0, 1, 5] [2, 3, 4, 6] rfl rfl (by decide) (by decide) hk1 hFc hP1 hD1
  replace hP : va_P (dC, dI) clA [(f3, .inl (cI, 60, .inl ftk)), (f6, .inl (cI, 30, .inl (upd ftr pfe (nI t)))), (f7, .inl (cL, 30, .inr (.inl (vp_updL ftn pfe x)))), (f10, .inl (cL, 30, .inr (.inl frk))), (f0, .inr (2, [.int (nI pfc), .ref f1, .ref f2, .ref f3, .ref f4, .ref f5, .int (nI pfe), .ref f6, .ref f7, .ref f8, .ref f9, .ref f10, .int pfu, .int pfw])), (f2, .inl (cI, 60, .inl fmk)), (f8, .inl (cI, 30, .inl fca))] H3 := hPn
  replace hD : va_D A [(f3, .inl (cI, 60, .inl ftk)), (f6, .inl (cI, 30, .inl (upd ftr pfe (nI t)))), (f7, .inl (cL, 30, .inr (.inl (vp_updL ftn pfe x)))), (f10, .inl (cL, 30, .inr (.inl frk))), (f0, .inr (2, [.int (nI pfc), .ref f1, .ref f2, .ref f3, .ref f4, .ref f5, .int (nI pfe), .ref f6, .ref f7, .ref f8, .ref f9, .ref f10, .int pfu, .int pfw])), (f2, .inl (cI, 60, .inl fmk)), (f8, .inl (cI, 30, .inl fca))] := hDn
  replace hS := hSn
  clear hPn hDn hSn
  clear hPc hDc hFc hP1 hD1 hk1 hz1 ht9 hvm
  refine W.cs (cells' := 0) (slots' := 0) rfl rfl ?_
  refine lv_iconst (v := 1) hx hb d_Pf_addEvent_33 (by decide) ?_
  refine lv_iload hx hb d_Pf_addEvent_34 (lv_at hl 0 rfl) ?_
  refine lv_ishl hx hb d_Pf_addEvent_36 ?_
  refine lv_ior hx hb d_Pf_addEvent_37 ?_
  refine na_iast (k := pfe) hx hb hK hP hD hS 6 0 rfl rfl (by omega) (by decide) d_Pf_addEvent_38 (fun H6 locs hPn hDn hSn => ?_)
  replace hP : va_P (dC, dI) clA [(f3, .inl (cI, 60, .inl ftk)), (f6, .inl (cI, 30, .inl (upd ftr pfe (nI t)))), (f7, .inl (cL, 30, .inr (.inl (vp_updL ftn pfe x)))), (f10, .inl (cL, 30, .inr (.inl frk))), (f0, .inr (2, [.int (nI pfc), .ref f1, .ref f2, .ref f3, .ref f4, .ref f5, .int (nI pfe), .ref f6, .ref f7, .ref f8, .ref f9, .ref f10, .int pfu, .int pfw])), (f2, .inl (cI, 60, .inl fmk)), (f8, .inl (cI, 30, .inl (upd fca pfe (r5 ||| (1 <<< ((nI pfe) &&& 31))))))] H6 := hPn
  replace hD : va_D A [(f3, .inl (cI, 60, .inl ftk)), (f6, .inl (cI, 30, .inl (upd ftr pfe (nI t)))), (f7, .inl (cL, 30, .inr (.inl (vp_updL ftn pfe x)))), (f10, .inl (cL, 30, .inr (.inl frk))), (f0, .inr (2, [.int (nI pfc), .ref f1, .ref f2, .ref f3, .ref f4, .ref f5, .int (nI pfe), .ref f6, .ref f7, .ref f8, .ref f9, .ref f10, .int pfu, .int pfw])), (f2, .inl (cI, 60, .inl fmk)), (f8, .inl (cI, 30, .inl (upd fca pfe (r5 ||| (1 <<< ((nI pfe) &&& 31))))))] := hDn
  replace hS := hSn
  clear hPn hDn hSn
  refine lv_aload_n hx hb d_Pf_addEvent_39 rfl (lv_at hl 1 rfl) ?_
  refine va_get (D := (dC, dI)) (ci := 2) (v := .ref f10) (C := "NetUnfolder$Prefix") (T := T_Pf) (N := 14) hx hb ht in_Pf hown hK hP 4 rfl rfl 11 (by decide) (ht _ wd_1_98) (fun _ h9 => h9) rfl d_Pf_addEvent_40 ?_
  refine lv_iload hx hb d_Pf_addEvent_43 (lv_at hl 0 rfl) ?_
  refine lv_lload hx hb d_Pf_addEvent_45 (lv_at hl 4 rfl) ?_
  refine na_last (k := pfe) hx hb hK hP hD hS 3 1 rfl rfl (by omega) (by decide) d_Pf_addEvent_47 (fun H7 locs hPn hDn hSn => ?_)
  replace hP : va_P (dC, dI) clA [(f3, .inl (cI, 60, .inl ftk)), (f6, .inl (cI, 30, .inl (upd ftr pfe (nI t)))), (f7, .inl (cL, 30, .inr (.inl (vp_updL ftn pfe x)))), (f10, .inl (cL, 30, .inr (.inl (vp_updL frk pfe y)))), (f0, .inr (2, [.int (nI pfc), .ref f1, .ref f2, .ref f3, .ref f4, .ref f5, .int (nI pfe), .ref f6, .ref f7, .ref f8, .ref f9, .ref f10, .int pfu, .int pfw])), (f2, .inl (cI, 60, .inl fmk)), (f8, .inl (cI, 30, .inl (upd fca pfe (r5 ||| (1 <<< ((nI pfe) &&& 31))))))] H7 := hPn
  replace hD : va_D A [(f3, .inl (cI, 60, .inl ftk)), (f6, .inl (cI, 30, .inl (upd ftr pfe (nI t)))), (f7, .inl (cL, 30, .inr (.inl (vp_updL ftn pfe x)))), (f10, .inl (cL, 30, .inr (.inl (vp_updL frk pfe y)))), (f0, .inr (2, [.int (nI pfc), .ref f1, .ref f2, .ref f3, .ref f4, .ref f5, .int (nI pfe), .ref f6, .ref f7, .ref f8, .ref f9, .ref f10, .int pfu, .int pfw])), (f2, .inl (cI, 60, .inl fmk)), (f8, .inl (cI, 30, .inl (upd fca pfe (r5 ||| (1 <<< ((nI pfe) &&& 31))))))] := hDn
  replace hS := hSn
  clear hPn hDn hSn
  refine lv_iconst (v := 0) hx hb d_Pf_addEvent_48 (by decide) ?_
  refine lv_istore (lv' := [(7, .int 0), (6, .int (nI pfe)), (0, .ref f0), (1, .int (nI t)), (2, .long x), (4, .long y)]) hx hb d_Pf_addEvent_49 hl (by decide) rfl (fun ls hln => ?_)
  replace hl : lv_has ls 8 [(7, .int 0), (6, .int (nI pfe)), (0, .ref f0), (1, .int (nI t)), (2, .long x), (4, .long y)] := hln
  clear hln
  have hloop8 : ∀ (n51 : Nat) (i : Nat) (ftk2 : Nat → Int32) (hi : i ≤ pfc) (H : Heap) (locs : List Loc) (ls : Array Slot) (hl : lv_has ls 8 [(0, .ref f0), (1, .int (nI t)), (2, .long x), (4, .long y), (6, .int (nI pfe)), (7, .int (nI i))]) (hP : va_P (dC, dI) clA [(f3, .inl (cI, 60, .inl ftk2)), (f6, .inl (cI, 30, .inl (upd ftr pfe (nI t)))), (f7, .inl (cL, 30, .inr (.inl (vp_updL ftn pfe x)))), (f10, .inl (cL, 30, .inr (.inl (vp_updL frk pfe y)))), (f0, .inr (2, [.int (nI pfc), .ref f1, .ref f2, .ref f3, .ref f4, .ref f5, .int (nI pfe), .ref f6, .ref f7, .ref f8, .ref f9, .ref f10, .int pfu, .int pfw])), (f2, .inl (cI, 60, .inl fmk)), (f8, .inl (cI, 30, .inl (upd fca pfe (r5 ||| (1 <<< ((nI pfe) &&& 31))))))] H) (hD : va_D A [(f3, .inl (cI, 60, .inl ftk2)), (f6, .inl (cI, 30, .inl (upd ftr pfe (nI t)))), (f7, .inl (cL, 30, .inr (.inl (vp_updL ftn pfe x)))), (f10, .inl (cL, 30, .inr (.inl (vp_updL frk pfe y)))), (f0, .inr (2, [.int (nI pfc), .ref f1, .ref f2, .ref f3, .ref f4, .ref f5, .int (nI pfe), .ref f6, .ref f7, .ref f8, .ref f9, .ref f10, .int pfu, .int pfw])), (f2, .inl (cI, 60, .inl fmk)), (f8, .inl (cI, 30, .inl (upd fca pfe (r5 ||| (1 <<< ((nI pfe) &&& 31))))))]) (hS : va_S A s.heap H locs) (hm51 : pfc - i < n51), W p l e (headSpec (Cond.code y_Pf_addEvent prog_5_method_6_code 8 (some .int) :: wsA) { frames := 2, cells := 0, slots := 0, locals := 46 }).room s m ([.ref f0, .int (nI t), .long x, .long y] : List Value).toArray below meth c H locs 0 0 Q (F0 m 51 ls []) := by
    clear hl hP hD hS
    intro n51
    induction n51 with
    | zero => intro i ftk2 hi H locs ls hl hP hD hS hm; exact absurd hm (Nat.not_lt_zero _)
    | succ n51 hloop8_ih =>
      intro i ftk2 hi H locs ls hl hP hD hS hm51
      refine lv_iload hx hb d_Pf_addEvent_51 (lv_at hl 5 rfl) ?_
      refine lv_aload_n hx hb d_Pf_addEvent_53 rfl (lv_at hl 0 rfl) ?_
      refine va_get (D := (dC, dI)) (ci := 2) (v := .int (nI pfc)) (C := "NetUnfolder$Prefix") (T := T_Pf) (N := 14) hx hb ht in_Pf hown hK hP 4 rfl rfl 0 (by decide) (ht _ wd_1_62) (fun _ h9 => h9) rfl d_Pf_addEvent_54 ?_
      refine lv_icmp_ge (tgt := 89) hx hb d_Pf_addEvent_57 (by decide) (fun hb9 => ?_) (fun hb9 => ?_)
      · skip
        replace hb9 := cv_le (a := pfc) (b := i) (by omega) (by omega) hb9
        refine lv_aload_n hx hb d_Pf_addEvent_89 rfl (lv_at hl 0 rfl) ?_
        refine lv_dup hx hb d_Pf_addEvent_90 rfl ?_
        refine va_get (D := (dC, dI)) (ci := 2) (v := .int (nI pfe)) (C := "NetUnfolder$Prefix") (T := T_Pf) (N := 14) hx hb ht in_Pf hown hK hP 4 rfl rfl 6 (by decide) (ht _ wd_1_82) (fun _ h9 => h9) rfl d_Pf_addEvent_91 ?_
        refine lv_iconst (v := 1) hx hb d_Pf_addEvent_94 (by decide) ?_
        refine lv_iadd hx hb d_Pf_addEvent_95 ?_
        refine ci_i (y := nI (pfe + 1)) (cv_add pfe 1) ?_
        refine va_put (D := (dC, dI)) (ci := 2) (v := .int (nI (pfe + 1))) (ty := .int) (C := "NetUnfolder$Prefix") (T := T_Pf) (N := 14) hx hb ht in_Pf ty_Pf ok_Pf nm_Pf hown hK hP hD hS 4 rfl rfl 6 (by decide) (ht _ wd_1_82) (fun _ h9 => h9) rfl (by decide +kernel) rfl rfl (Nat.le_of_ble_eq_true rfl) d_Pf_addEvent_96 (fun H10 locs hPn hDn hSn => ?_)
        replace hP : va_P (dC, dI) clA [(f3, .inl (cI, 60, .inl ftk2)), (f6, .inl (cI, 30, .inl (upd ftr pfe (nI t)))), (f7, .inl (cL, 30, .inr (.inl (vp_updL ftn pfe x)))), (f10, .inl (cL, 30, .inr (.inl (vp_updL frk pfe y)))), (f0, .inr (2, [.int (nI pfc), .ref f1, .ref f2, .ref f3, .ref f4, .ref f5, .int (nI (pfe + 1)), .ref f6, .ref f7, .ref f8, .ref f9, .ref f10, .int pfu, .int pfw])), (f2, .inl (cI, 60, .inl fmk)), (f8, .inl (cI, 30, .inl (upd fca pfe (r5 ||| (1 <<< ((nI pfe) &&& 31))))))] H10 := hPn
        replace hD : va_D A [(f3, .inl (cI, 60, .inl ftk2)), (f6, .inl (cI, 30, .inl (upd ftr pfe (nI t)))), (f7, .inl (cL, 30, .inr (.inl (vp_updL ftn pfe x)))), (f10, .inl (cL, 30, .inr (.inl (vp_updL frk pfe y)))), (f0, .inr (2, [.int (nI pfc), .ref f1, .ref f2, .ref f3, .ref f4, .ref f5, .int (nI (pfe + 1)), .ref f6, .ref f7, .ref f8, .ref f9, .ref f10, .int pfu, .int pfw])), (f2, .inl (cI, 60, .inl fmk)), (f8, .inl (cI, 30, .inl (upd fca pfe (r5 ||| (1 <<< ((nI pfe) &&& 31))))))] := hDn
        replace hS := hSn
        clear hPn hDn hSn
        refine lv_iload hx hb d_Pf_addEvent_99 (lv_at hl 4 rfl) ?_
        have hP9 := hP.sub (ws' := [(f0, .inr (2, [.int (nI pfc), .ref f1, .ref f2, .ref f3, .ref f4, .ref f5, .int (nI (pfe + 1)), .ref f6, .ref f7, .ref f8, .ref f9, .ref f10, .int pfu, .int pfw])), (f2, .inl (cI, 60, .inl fmk)), (f3, .inl (cI, 60, .inl ftk2)), (f6, .inl (cI, 30, .inl (upd ftr pfe (nI t)))), (f7, .inl (cL, 30, .inr (.inl (vp_updL ftn pfe x)))), (f8, .inl (cI, 30, .inl (upd fca pfe (r5 ||| (1 <<< ((nI pfe) &&& 31)))))), (f10, .inl (cL, 30, .inr (.inl (vp_updL frk pfe y))))]) [4, 5, 0, 1, 2, 6, 3] rfl
        have hD9 := hD.sub (ws' := [(f0, .inr (2, [.int (nI pfc), .ref f1, .ref f2, .ref f3, .ref f4, .ref f5, .int (nI (pfe + 1)), .ref f6, .ref f7, .ref f8, .ref f9, .ref f10, .int pfu, .int pfw])), (f2, .inl (cI, 60, .inl fmk)), (f3, .inl (cI, 60, .inl ftk2)), (f6, .inl (cI, 30, .inl (upd ftr pfe (nI t)))), (f7, .inl (cL, 30, .inr (.inl (vp_updL ftn pfe x)))), (f8, .inl (cI, 30, .inl (upd fca pfe (r5 ||| (1 <<< ((nI pfe) &&& 31)))))), (f10, .inl (cL, 30, .inr (.inl (vp_updL frk pfe y))))]) [4, 5, 0, 1, 2, 6, 3] (by decide) rfl
        subst hQ
        exact W.iret (v := nI pfe) hx hb hr (fun t9 ht9 hW => ⟨⟨nI pfe, (), rfl, rfl, ftk2, (upd ftr pfe (nI t)), (vp_updL ftn pfe x), (upd fca pfe (r5 ||| (1 <<< ((nI pfe) &&& 31)))), (vp_updL frk pfe y), (AllLt.push htr ht8), by rw [ht9]; exact hP9, hD9⟩, hS.F ht9⟩) hS.2.2 d_Pf_addEvent_101
      · skip
        replace hb9 := cv_nle (a := pfc) (b := i) (by omega) (by omega) hb9
        refine lv_lload_n hx hb d_Pf_addEvent_60 rfl (lv_at hl 2 rfl) ?_
        refine lv_iload hx hb d_Pf_addEvent_61 (lv_at hl 5 rfl) ?_
        have hPc : va_P (dC, dI) clA [] _ := pu_P (H := H)
        have hDc : va_D (fun _ => True) [] := pu_D
        have hFc := pu_free hS hA
        refine va_calli (va_runSN (As := [.long x, .int (nI i)]) (rest := []) ⟨hx, hb, hml, hown, ht⟩ (c_NU_has l dC dI cI cL cZ _ x i (by first | assumption | omega | trivial | exact AllLt.zero | exact AllN.zero | exact Or.inl rfl | exact Or.inr rfl)) ⟨va_cnB 2 ht (goodA wd_2_102) rfl rfl rfl hN.2.2.2.2.1 (ht _ wd_1_1) (by decide +kernel) ⟨Nat.le_of_ble_eq_true rfl, Nat.le_of_ble_eq_true rfl⟩, ht _ wd_2_101, trivial⟩ ⟨fun a U g mk q => by obtain ⟨q0, q1, qP, qK, qD, qN⟩ := q; exact ⟨q0, q1, qP, va_K.moved (u := U) (U := U.calling g mk a) (Vm.Alike.refl U.vm) qK, qD, NwA.same (u := U) rfl qN⟩, fun U hU hW => ⟨rfl, by rw [hU], by rw [hU]; exact hPc, va_K.moved hW.alike hK, hDc.weaken (fun _ _ _ _ => trivial), NwA.warm hW hN⟩⟩ rfl rfl hl.1 rfl (lv_room (Nat.le_of_ble_eq_true rfl)) d_Pf_addEvent_63 ⟨Nat.le_of_ble_eq_true rfl, Nat.le_of_ble_eq_true rfl⟩) hS (fun q _ h => hFc q h) hFc (fun r13 u9 t9 H11 locs ht9 hvm hw12 hB hz1 hk1 hSn => ?_)
        replace hP : va_P (dC, dI) clA [(f3, .inl (cI, 60, .inl ftk2)), (f6, .inl (cI, 30, .inl (upd ftr pfe (nI t)))), (f7, .inl (cL, 30, .inr (.inl (vp_updL ftn pfe x)))), (f10, .inl (cL, 30, .inr (.inl (vp_updL frk pfe y)))), (f0, .inr (2, [.int (nI pfc), .ref f1, .ref f2, .ref f3, .ref f4, .ref f5, .int (nI pfe), .ref f6, .ref f7, .ref f8, .ref f9, .ref f10, .int pfu, .int pfw])), (f2, .inl (cI, 60, .inl fmk)), (f8, .inl (cI, 30, .inl (upd fca pfe (r5 ||| (1 <<< ((nI pfe) &&& 31))))))] H11 := pu_keep hP hk1
        replace hS := hSn
        clear hSn hPc hDc hFc hk1 hz1 ht9 hvm hB
        refine W.cs (cells' := 0) (slots' := 0) rfl rfl ?_
        subst hw12
        refine lv_if_eq (tgt := 83) hx hb d_Pf_addEvent_66 (by decide) (fun hb14 => ?_) (fun hb14 => ?_)
        · skip
          refine lv_iinc (k := 5) (v := nI (i + 1)) (lv' := [(7, .int (nI (i + 1))), (0, .ref f0), (1, .int (nI t)), (2, .long x), (4, .long y), (6, .int (nI pfe))]) hx hb d_Pf_addEvent_83 hl rfl (nI_1 _) (by decide) rfl (fun ls hln => ?_)
          replace hl : lv_has ls 8 [(7, .int (nI (i + 1))), (0, .ref f0), (1, .int (nI t)), (2, .long x), (4, .long y), (6, .int (nI pfe))] := hln
          clear hln
          refine lv_goto (tgt := 51) hx hb d_Pf_addEvent_86 (by decide) ?_
          exact hloop8_ih (i + 1) ftk2 (by first | assumption | omega | trivial | exact AllLt.zero | exact AllN.zero | exact Or.inl rfl | exact Or.inr rfl) _ _ ls (lv_sub hl [1, 2, 3, 4, 5, 0] rfl) (hP.sub [0, 1, 2, 3, 4, 5, 6] rfl) (hD.sub [0, 1, 2, 3, 4, 5, 6] (by decide) rfl) hS (by omega)
        · skip
          refine lv_aload_n hx hb d_Pf_addEvent_69 rfl (lv_at hl 0 rfl) ?_
          refine va_get (D := (dC, dI)) (ci := 2) (v := .ref f3) (C := "NetUnfolder$Prefix") (T := T_Pf) (N := 14) hx hb ht in_Pf hown hK hP 4 rfl rfl 3 (by decide) (ht _ wd_1_73) (fun _ h9 => h9) rfl d_Pf_addEvent_70 ?_
          refine lv_iload hx hb d_Pf_addEvent_73 (lv_at hl 5 rfl) ?_
          refine lv_dup2_11 hx hb d_Pf_addEvent_75 rfl rfl ?_
          refine na_iald (k := i) hx hb hK hP 0 0 rfl rfl (by omega) (by decide) d_Pf_addEvent_76 ?_
          refine lv_iconst (v := 1) hx hb d_Pf_addEvent_77 (by decide) ?_
          refine lv_iload hx hb d_Pf_addEvent_78 (lv_at hl 4 rfl) ?_
          refine lv_ishl hx hb d_Pf_addEvent_80 ?_
          refine lv_ior hx hb d_Pf_addEvent_81 ?_
          refine na_iast (k := i) hx hb hK hP hD hS 0 0 rfl rfl (by omega) (by decide) d_Pf_addEvent_82 (fun H15 locs hPn hDn hSn => ?_)
          replace hP : va_P (dC, dI) clA [(f3, .inl (cI, 60, .inl (upd ftk2 i ((ftk2 i) ||| (1 <<< ((nI pfe) &&& 31)))))), (f6, .inl (cI, 30, .inl (upd ftr pfe (nI t)))), (f7, .inl (cL, 30, .inr (.inl (vp_updL ftn pfe x)))), (f10, .inl (cL, 30, .inr (.inl (vp_updL frk pfe y)))), (f0, .inr (2, [.int (nI pfc), .ref f1, .ref f2, .ref f3, .ref f4, .ref f5, .int (nI pfe), .ref f6, .ref f7, .ref f8, .ref f9, .ref f10, .int pfu, .int pfw])), (f2, .inl (cI, 60, .inl fmk)), (f8, .inl (cI, 30, .inl (upd fca pfe (r5 ||| (1 <<< ((nI pfe) &&& 31))))))] H15 := hPn
          replace hD : va_D A [(f3, .inl (cI, 60, .inl (upd ftk2 i ((ftk2 i) ||| (1 <<< ((nI pfe) &&& 31)))))), (f6, .inl (cI, 30, .inl (upd ftr pfe (nI t)))), (f7, .inl (cL, 30, .inr (.inl (vp_updL ftn pfe x)))), (f10, .inl (cL, 30, .inr (.inl (vp_updL frk pfe y)))), (f0, .inr (2, [.int (nI pfc), .ref f1, .ref f2, .ref f3, .ref f4, .ref f5, .int (nI pfe), .ref f6, .ref f7, .ref f8, .ref f9, .ref f10, .int pfu, .int pfw])), (f2, .inl (cI, 60, .inl fmk)), (f8, .inl (cI, 30, .inl (upd fca pfe (r5 ||| (1 <<< ((nI pfe) &&& 31))))))] := hDn
          replace hS := hSn
          clear hPn hDn hSn
          refine lv_iinc (k := 5) (v := nI (i + 1)) (lv' := [(7, .int (nI (i + 1))), (0, .ref f0), (1, .int (nI t)), (2, .long x), (4, .long y), (6, .int (nI pfe))]) hx hb d_Pf_addEvent_83 hl rfl (nI_1 _) (by decide) rfl (fun ls hln => ?_)
          replace hl : lv_has ls 8 [(7, .int (nI (i + 1))), (0, .ref f0), (1, .int (nI t)), (2, .long x), (4, .long y), (6, .int (nI pfe))] := hln
          clear hln
          refine lv_goto (tgt := 51) hx hb d_Pf_addEvent_86 (by decide) ?_
          exact hloop8_ih (i + 1) (upd ftk2 i ((ftk2 i) ||| (1 <<< ((nI pfe) &&& 31)))) (by first | assumption | omega | trivial | exact AllLt.zero | exact AllN.zero | exact Or.inl rfl | exact Or.inr rfl) _ _ ls (lv_sub hl [1, 2, 3, 4, 5, 0] rfl) (hP.sub [0, 1, 2, 3, 4, 5, 6] rfl) (hD.sub [0, 1, 2, 3, 4, 5, 6] (by decide) rfl) hS (by omega)
  exact hloop8 ((pfc - 0) + 1) 0 ftk (by first | assumption | omega | trivial | exact AllLt.zero | exact AllN.zero | exact Or.inl rfl | exact Or.inr rfl) _ _ ls (lv_sub hl [2, 3, 4, 5, 1, 0] rfl) hP hD hS (Nat.lt_succ_self _)
