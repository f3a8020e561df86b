set_option maxHeartbeats 4000000 in
set_option maxRecDepth 100000 in
theorem e_Pf_addConditions (l : Launch) (dC : Nat → ClassId) (dI : Nat → Nat → Nat) (cI cL cZ : ClassId) (sz : Nat) (f0 : Nat) (f1 : Nat) (f2 : Nat) (f3 : Nat) (f4 : Nat) (f5 : Nat) (f6 : Nat) (f7 : Nat) (f8 : Nat) (f9 : Nat) (f10 : Nat) (pfc : Nat) (pfe : Nat) (pfu : Int32) (pfw : Int32) (fpl : Nat → Int32) (fmk : Nat → Int32) (ftk : Nat → Int32) (fbs : Nat → Int64) (fop : Nat → Int64) (n : Nat) (y : Int32) (z : Int64) (Z : Nat → Prop) (co : Nat → Nat → Prop) (Op : Nat → Nat → Prop) (hpc : pfc ≤ 60) (hn : n < 256) (hroom : pfc + bC n 8 ≤ 60) (hZB : B64 z Z) (hZd : ∀ d, Z d → d < pfc) (hBes : BesI pfc fbs co) (hOp : ∀ p, p < 8 → B64 (fop p) (Op p)) : Met l y_Pf_addConditions (Cond.code y_Pf_addConditions prog_5_method_5_code 10 (some .long) :: wsA) { frames := 1, cells := 0, slots := 0, locals := 22 } (va_Pc [.ref f0, .int (nI n), .int y, .long z] (fun U => U.heap.size = sz ∧ va_P (dC, dI) clA [(f0, .inr (2, [.int (nI pfc), .ref f1, .ref f2, .ref f3, .ref f4, .ref f5, .int (nI pfe), .ref f6, .ref f7, .ref f8, .ref f9, .ref f10, .int pfu, .int pfw])), (f1, .inl (cI, 60, .inl fpl)), (f2, .inl (cI, 60, .inl fmk)), (f3, .inl (cI, 60, .inl ftk)), (f4, .inl (cL, 60, .inr (.inl fbs))), (f5, .inl (cL, 8, .inr (.inl fop)))] U.heap ∧ va_K (dC, dI) clA [(cI, .int), (cL, .long), (cZ, .boolean)] U ∧ va_D (fun _ => True) [(f0, .inr (2, [.int (nI pfc), .ref f1, .ref f2, .ref f3, .ref f4, .ref f5, .int (nI pfe), .ref f6, .ref f7, .ref f8, .ref f9, .ref f10, .int pfu, .int pfw])), (f1, .inl (cI, 60, .inl fpl)), (f2, .inl (cI, 60, .inl fmk)), (f3, .inl (cI, 60, .inl ftk)), (f4, .inl (cL, 60, .inr (.inl fbs))), (f5, .inl (cL, 8, .inr (.inl fop)))] ∧ NwA U)) (va_Ql (fun r (_ : Unit) => (B64 r (fun d => pfc ≤ d ∧ d < pfc + bC n 8))) (fun _ t => ∃ (pfc1 : Nat), ∃ (fpl1 : Nat → Int32), ∃ (fmk1 : Nat → Int32), ∃ (ftk1 : Nat → Int32), ∃ (fbs1 : Nat → Int64), ∃ (fop1 : Nat → Int64), (pfc1 = pfc + bC n 8) ∧ (PlA fpl fpl1 pfc n 8) ∧ (CoA fmk fmk1 y pfc n 8) ∧ (CoA ftk ftk1 0 pfc n 8) ∧ (OpA fop1 Op pfc n 8) ∧ (BsA fbs1 pfc pfc1 Z co pfc1) ∧ va_P (dC, dI) clA [(f0, .inr (2, [.int (nI pfc1), .ref f1, .ref f2, .ref f3, .ref f4, .ref f5, .int (nI pfe), .ref f6, .ref f7, .ref f8, .ref f9, .ref f10, .int pfu, .int pfw])), (f1, .inl (cI, 60, .inl fpl1)), (f2, .inl (cI, 60, .inl fmk1)), (f3, .inl (cI, 60, .inl ftk1)), (f4, .inl (cL, 60, .inr (.inl fbs1))), (f5, .inl (cL, 8, .inr (.inl fop1)))] t.heap ∧ va_D (va_A [(f0, .inr (2, [.int (nI pfc), .ref f1, .ref f2, .ref f3, .ref f4, .ref f5, .int (nI pfe), .ref f6, .ref f7, .ref f8, .ref f9, .ref f10, .int pfu, .int pfw])), (f1, .inl (cI, 60, .inl fpl)), (f2, .inl (cI, 60, .inl fmk)), (f3, .inl (cI, 60, .inl ftk)), (f4, .inl (cL, 60, .inr (.inl fbs))), (f5, .inl (cL, 8, .inr (.inl fop)))] sz) [(f0, .inr (2, [.int (nI pfc1), .ref f1, .ref f2, .ref f3, .ref f4, .ref f5, .int (nI pfe), .ref f6, .ref f7, .ref f8, .ref f9, .ref f10, .int pfu, .int pfw])), (f1, .inl (cI, 60, .inl fpl1)), (f2, .inl (cI, 60, .inl fmk1)), (f3, .inl (cI, 60, .inl ftk1)), (f4, .inl (cL, 60, .inr (.inl fbs1))), (f5, .inl (cL, 8, .inr (.inl fop1)))]) (va_A [(f0, .inr (2, [.int (nI pfc), .ref f1, .ref f2, .ref f3, .ref f4, .ref f5, .int (nI pfe), .ref f6, .ref f7, .ref f8, .ref f9, .ref f10, .int pfu, .int pfw])), (f1, .inl (cI, 60, .inl fpl)), (f2, .inl (cI, 60, .inl fmk)), (f3, .inl (cI, 60, .inl ftk)), (f4, .inl (cL, 60, .inr (.inl fbs))), (f5, .inl (cL, 8, .inr (.inl fop)))] sz)) 0 0 (va_A [(f0, .inr (2, [.int (nI pfc), .ref f1, .ref f2, .ref f3, .ref f4, .ref f5, .int (nI pfe), .ref f6, .ref f7, .ref f8, .ref f9, .ref f10, .int pfu, .int pfw])), (f1, .inl (cI, 60, .inl fpl)), (f2, .inl (cI, 60, .inl fmk)), (f3, .inl (cI, 60, .inl ftk)), (f4, .inl (cL, 60, .inr (.inl fbs))), (f5, .inl (cL, 8, .inr (.inl fop)))] sz) := by
  refine Met.ofW (cc := prog_5_method_5_code) (maxL := 10) (ret := (some .long)) (by decide) rfl ?_
  intro p e s m args below meth c s₁ B hml hv
  obtain ⟨rfl, hsz, hP, hK, hD0, hN⟩ := hv
  have hx := B.exec
  have hb := B.bytes
  have hr := B.returns
  have ht : ∀ w ∈ wsA, w.before _ s = true := fun w h => atoms_spec (ws := (Cond.code y_Pf_addConditions prog_5_method_5_code 10 (some .long) :: wsA)) B.pre w (List.mem_cons_of_mem _ h)
  have hown : s.vm.findClass "NetUnfolder$Prefix" = some m.cls := findClass_of_methodNamed B.named
  have hlocks := B.notSynchronized
  subst hsz
  have hD := hD0.self (sz := s.heap.size)
  generalize hAe : va_A [(f0, .inr (2, [.int (nI pfc), .ref f1, .ref f2, .ref f3, .ref f4, .ref f5, .int (nI pfe), .ref f6, .ref f7, .ref f8, .ref f9, .ref f10, .int pfu, .int pfw])), (f1, .inl (cI, 60, .inl fpl)), (f2, .inl (cI, 60, .inl fmk)), (f3, .inl (cI, 60, .inl ftk)), (f4, .inl (cL, 60, .inr (.inl fbs))), (f5, .inl (cL, 8, .inr (.inl fop)))] s.heap.size = A at hD ⊢
  have hA : ∀ q : Nat, s.heap.size ≤ q → A q := fun q h => by rw [← hAe]; exact Or.inr h
  have hS : va_S A s.heap s.heap [] := va_S.rf
  have hl := lv_entry ([.ref f0, .int (nI n), .int y, .long z]) (n := 10) (Nat.le_of_ble_eq_true rfl)
  rw [lg_entry_eq]
  generalize (lg_sl ([.ref f0, .int (nI n), .int y, .long z]) ++ List.replicate (10 - (lg_sl ([.ref f0, .int (nI n), .int y, .long z])).length) Slot.unset).toArray = ls at hl ⊢
  replace hl : lv_has ls 10 [(0, .ref f0), (1, .int (nI n)), (2, .int y), (3, .long z)] := hl
  refine W_Q (fun Q hQ => ?_)
  refine lv_aload_n hx hb d_Pf_addConditions_0 rfl (lv_at hl 0 rfl) ?_
  have hPc := hP.sub (ws' := [(f0, .inr (2, [.int (nI pfc), .ref f1, .ref f2, .ref f3, .ref f4, .ref f5, .int (nI pfe), .ref f6, .ref f7, .ref f8, .ref f9, .ref f10, .int pfu, .int pfw]))]) [0] rfl
  have hDc := hD.sub (ws' := [(f0, .inr (2, [.int (nI pfc), .ref f1, .ref f2, .ref f3, .ref f4, .ref f5, .int (nI pfe), .ref f6, .ref f7, .ref f8, .ref f9, .ref f10, .int pfu, .int pfw]))]) [0] (by decide) rfl
  have hFc := va_free (wc := [(f0, .inr (2, [.int (nI pfc), .ref f1, .ref f2, .ref f3, .ref f4, .ref f5, .int (nI pfe), .ref f6, .ref f7, .ref f8, .ref f9, .ref f10, .int pfu, .int pfw]))]) hD hS hA [0] rfl
  refine va_calll (va_runV (C := "NetUnfolder$Prefix") (As := []) (rest := []) ⟨hx, hb, hml, hown, ht⟩ (e_Pf_allConditions l dC dI cI cL cZ _ f0 f1 f2 f3 f4 f5 f6 f7 f8 f9 f10 pfc pfe pfu pfw (by first | assumption | omega | trivial | exact AllLt.zero | exact AllN.zero | exact AllM.zero | exact Or.inl rfl | exact Or.inr rfl)) (cwV 0 ht (good_V wd_2_96 wd_2_97 wd_2_98 wd_1_3 wd_2_99) rfl rfl rfl (by decide +kernel) ⟨Nat.le_of_ble_eq_true rfl, Nat.le_of_ble_eq_true rfl⟩) ⟨fun a U g mk q => by obtain ⟨q0, q1, qP, qK, qD, qN⟩ := q; exact ⟨q0, q1, qP, va_K.moved (u := U) (U := U.calling g mk a) (Vm.Alike.refl U.vm) qK, qD, NwA.same (u := U) rfl qN⟩, (va_recv (q0 := 0) (ci := 2) hK hP rfl rfl), fun U hU hW => ⟨rfl, by rw [hU], by rw [hU]; exact hPc, va_K.moved hW.alike hK, hDc.weaken (fun _ _ _ _ => trivial), NwA.warm hW hN⟩⟩ rfl rfl hl.1 rfl (lv_room (Nat.le_of_ble_eq_true rfl)) d_Pf_addConditions_1 ⟨Nat.le_of_ble_eq_true rfl, Nat.le_of_ble_eq_true rfl⟩) hS (fun q _ h => hFc q h) hFc (fun r3 u9 t9 H1 locs ht9 hvm hw2 hB hz1 hk1 hSn => ?_)
  obtain ⟨hP1, hD1⟩ := hB
  rw [ht9] at hP1
  obtain ⟨hPn, hDn⟩ := va_join (wr := [(f1, .inl (cI, 60, .inl fpl)), (f2, .inl (cI, 60, .inl fmk)), (f3, .inl (cI, 60, .inl ftk)), (f4, .inl (cL, 60, .inr (.inl fbs))), (f5, .inl (cL, 8, .inr (.inl fop)))]) (w1 := [(f0, .inr (2, [.int (nI pfc), .ref f1, .ref f2, .ref f3, .ref f4, .ref f5, .int (nI pfe), .ref f6, .ref f7, .ref f8, .ref f9, .ref f10, .int pfu, .int pfw]))]) hP hD [0] [1, 2, 3, 4, 5] rfl rfl (by decide) (by decide) hk1 hFc hP1 hD1
  replace hP : va_P (dC, dI) clA [(f1, .inl (cI, 60, .inl fpl)), (f2, .inl (cI, 60, .inl fmk)), (f3, .inl (cI, 60, .inl ftk)), (f4, .inl (cL, 60, .inr (.inl fbs))), (f5, .inl (cL, 8, .inr (.inl fop))), (f0, .inr (2, [.int (nI pfc), .ref f1, .ref f2, .ref f3, .ref f4, .ref f5, .int (nI pfe), .ref f6, .ref f7, .ref f8, .ref f9, .ref f10, .int pfu, .int pfw]))] H1 := hPn
  replace hD : va_D A [(f1, .inl (cI, 60, .inl fpl)), (f2, .inl (cI, 60, .inl fmk)), (f3, .inl (cI, 60, .inl ftk)), (f4, .inl (cL, 60, .inr (.inl fbs))), (f5, .inl (cL, 8, .inr (.inl fop))), (f0, .inr (2, [.int (nI pfc), .ref f1, .ref f2, .ref f3, .ref f4, .ref f5, .int (nI pfe), .ref f6, .ref f7, .ref f8, .ref f9, .ref f10, .int pfu, .int pfw]))] := hDn
  replace hS := hSn
  clear hPn hDn hSn
  clear hPc hDc hFc hP1 hD1 hk1 hz1 ht9 hvm
  refine W.cs (cells' := 0) (slots' := 0) rfl rfl ?_
  have hr4 := hw2
  refine lv_lstore (lv' := [(5, .long r3), (0, .ref f0), (1, .int (nI n)), (2, .int y), (3, .long z)]) hx hb d_Pf_addConditions_4 hl (by decide) rfl (fun ls hln => ?_)
  replace hl : lv_has ls 10 [(5, .long r3), (0, .ref f0), (1, .int (nI n)), (2, .int y), (3, .long z)] := hln
  clear hln
  refine lv_iconst (v := 0) hx hb d_Pf_addConditions_6 (by decide) ?_
  refine lv_istore (lv' := [(7, .int 0), (5, .long r3), (0, .ref f0), (1, .int (nI n)), (2, .int y), (3, .long z)]) hx hb d_Pf_addConditions_7 hl (by decide) rfl (fun ls hln => ?_)
  replace hl : lv_has ls 10 [(7, .int 0), (5, .long r3), (0, .ref f0), (1, .int (nI n)), (2, .int y), (3, .long z)] := hln
  clear hln
  have hloop5 : ∀ (n9 : Nat) (bf : Int64) (i : Nat) (c2 : Nat) (fpl2 : Nat → Int32) (fmk2 : Nat → Int32) (ftk2 : Nat → Int32) (fop2 : Nat → Int64) (hi : i ≤ 8) (hc2 : c2 = pfc + bC n i) (hPl : PlA fpl fpl2 pfc n i) (hMk : CoA fmk fmk2 y pfc n i) (hTk : CoA ftk ftk2 0 pfc n i) (hOp2 : OpA fop2 Op pfc n i) (hbf : B64 bf (fun d => d < pfc)) (H : Heap) (locs : List Loc) (ls : Array Slot) (hl : lv_has ls 10 [(0, .ref f0), (1, .int (nI n)), (2, .int y), (3, .long z), (5, .long bf), (7, .int (nI i))]) (hP : va_P (dC, dI) clA [(f1, .inl (cI, 60, .inl fpl2)), (f2, .inl (cI, 60, .inl fmk2)), (f3, .inl (cI, 60, .inl ftk2)), (f4, .inl (cL, 60, .inr (.inl fbs))), (f5, .inl (cL, 8, .inr (.inl fop2))), (f0, .inr (2, [.int (nI c2), .ref f1, .ref f2, .ref f3, .ref f4, .ref f5, .int (nI pfe), .ref f6, .ref f7, .ref f8, .ref f9, .ref f10, .int pfu, .int pfw]))] H) (hD : va_D A [(f1, .inl (cI, 60, .inl fpl2)), (f2, .inl (cI, 60, .inl fmk2)), (f3, .inl (cI, 60, .inl ftk2)), (f4, .inl (cL, 60, .inr (.inl fbs))), (f5, .inl (cL, 8, .inr (.inl fop2))), (f0, .inr (2, [.int (nI c2), .ref f1, .ref f2, .ref f3, .ref f4, .ref f5, .int (nI pfe), .ref f6, .ref f7, .ref f8, .ref f9, .ref f10, .int pfu, .int pfw]))]) (hS : va_S A s.heap H locs) (hm9 : 8 - i < n9), W p l e (headSpec (Cond.code y_Pf_addConditions prog_5_method_5_code 10 (some .long) :: wsA) { frames := 1, cells := 0, slots := 0, locals := 22 }).room s m ([.ref f0, .int (nI n), .int y, .long z] : List Value).toArray below meth c H locs 0 0 Q (F0 m 9 ls []) := by
    clear hl hP hD hS
    intro n9
    induction n9 with
    | zero => intro bf i c2 fpl2 fmk2 ftk2 fop2 hi hc2 hPl hMk hTk hOp2 hbf H locs ls hl hP hD hS hm; exact absurd hm (Nat.not_lt_zero _)
    | succ n9 hloop5_ih =>
      intro bf i c2 fpl2 fmk2 ftk2 fop2 hi hc2 hPl hMk hTk hOp2 hbf H locs ls hl hP hD hS hm9
      have hbm := bC_mono n (i := i) (k := 8) (by omega)
      refine lv_iload hx hb d_Pf_addConditions_9 (lv_at hl 5 rfl) ?_
      refine lv_bipush (v := 8) hx hb d_Pf_addConditions_11 (by decide) ?_
      refine lv_icmp_ge (tgt := 98) hx hb d_Pf_addConditions_13 (by decide) (fun hb6 => ?_) (fun hb6 => ?_)
      · skip
        replace hb6 := cv_le (a := 8) (b := i) (by omega) (by omega) hb6
        have hi8 : i = 8 := by omega
        refine lv_aload_n hx hb d_Pf_addConditions_98 rfl (lv_at hl 0 rfl) ?_
        have hPc := hP.sub (ws' := [(f0, .inr (2, [.int (nI c2), .ref f1, .ref f2, .ref f3, .ref f4, .ref f5, .int (nI pfe), .ref f6, .ref f7, .ref f8, .ref f9, .ref f10, .int pfu, .int pfw]))]) [5] rfl
        have hDc := hD.sub (ws' := [(f0, .inr (2, [.int (nI c2), .ref f1, .ref f2, .ref f3, .ref f4, .ref f5, .int (nI pfe), .ref f6, .ref f7, .ref f8, .ref f9, .ref f10, .int pfu, .int pfw]))]) [5] (by decide) rfl
        have hFc := va_free (wc := [(f0, .inr (2, [.int (nI c2), .ref f1, .ref f2, .ref f3, .ref f4, .ref f5, .int (nI pfe), .ref f6, .ref f7, .ref f8, .ref f9, .ref f10, .int pfu, .int pfw]))]) hD hS hA [5] rfl
        refine va_calll (va_runV (C := "NetUnfolder$Prefix") (As := []) (rest := []) ⟨hx, hb, hml, hown, ht⟩ (e_Pf_allConditions l dC dI cI cL cZ _ f0 f1 f2 f3 f4 f5 f6 f7 f8 f9 f10 c2 pfe pfu pfw (by first | assumption | omega | trivial | exact AllLt.zero | exact AllN.zero | exact AllM.zero | exact Or.inl rfl | exact Or.inr rfl)) (cwV 0 ht (good_V wd_2_96 wd_2_97 wd_2_98 wd_1_3 wd_2_99) rfl rfl rfl (by decide +kernel) ⟨Nat.le_of_ble_eq_true rfl, Nat.le_of_ble_eq_true rfl⟩) ⟨fun a U g mk q => by obtain ⟨q0, q1, qP, qK, qD, qN⟩ := q; exact ⟨q0, q1, qP, va_K.moved (u := U) (U := U.calling g mk a) (Vm.Alike.refl U.vm) qK, qD, NwA.same (u := U) rfl qN⟩, (va_recv (q0 := 5) (ci := 2) hK hP rfl rfl), fun U hU hW => ⟨rfl, by rw [hU], by rw [hU]; exact hPc, va_K.moved hW.alike hK, hDc.weaken (fun _ _ _ _ => trivial), NwA.warm hW hN⟩⟩ rfl rfl hl.1 rfl (lv_room (Nat.le_of_ble_eq_true rfl)) d_Pf_addConditions_99 ⟨Nat.le_of_ble_eq_true rfl, Nat.le_of_ble_eq_true rfl⟩) hS (fun q _ h => hFc q h) hFc (fun r9 u9 t9 H7 locs ht9 hvm hw8 hB hz1 hk1 hSn => ?_)
        obtain ⟨hP1, hD1⟩ := hB
        rw [ht9] at hP1
        obtain ⟨hPn, hDn⟩ := va_join (wr := [(f1, .inl (cI, 60, .inl fpl2)), (f2, .inl (cI, 60, .inl fmk2)), (f3, .inl (cI, 60, .inl ftk2)), (f4, .inl (cL, 60, .inr (.inl fbs))), (f5, .inl (cL, 8, .inr (.inl fop2)))]) (w1 := [(f0, .inr (2, [.int (nI c2), .ref f1, .ref f2, .ref f3, .ref f4, .ref f5, .int (nI pfe), .ref f6, .ref f7, .ref f8, .ref f9, .ref f10, .int pfu, .int pfw]))]) hP hD [5] [0, 1, 2, 3, 4] rfl rfl (by decide) (by decide) hk1 hFc hP1 hD1
        replace hP : va_P (dC, dI) clA [(f1, .inl (cI, 60, .inl fpl2)), (f2, .inl (cI, 60, .inl fmk2)), (f3, .inl (cI, 60, .inl ftk2)), (f4, .inl (cL, 60, .inr (.inl fbs))), (f5, .inl (cL, 8, .inr (.inl fop2))), (f0, .inr (2, [.int (nI c2), .ref f1, .ref f2, .ref f3, .ref f4, .ref f5, .int (nI pfe), .ref f6, .ref f7, .ref f8, .ref f9, .ref f10, .int pfu, .int pfw]))] H7 := hPn
        replace hD : va_D A [(f1, .inl (cI, 60, .inl fpl2)), (f2, .inl (cI, 60, .inl fmk2)), (f3, .inl (cI, 60, .inl ftk2)), (f4, .inl (cL, 60, .inr (.inl fbs))), (f5, .inl (cL, 8, .inr (.inl fop2))), (f0, .inr (2, [.int (nI c2), .ref f1, .ref f2, .ref f3, .ref f4, .ref f5, .int (nI pfe), .ref f6, .ref f7, .ref f8, .ref f9, .ref f10, .int pfu, .int pfw]))] := hDn
        replace hS := hSn
        clear hPn hDn hSn
        clear hPc hDc hFc hP1 hD1 hk1 hz1 ht9 hvm
        refine W.cs (cells' := 0) (slots' := 0) rfl rfl ?_
        have hr10 := hw8
        refine lv_lload hx hb d_Pf_addConditions_102 (lv_at hl 4 rfl) ?_
        refine lv_ldc2 hx hb hown (ht _ wd_2_103) d_Pf_addConditions_104 ?_
        refine lv_lxor hx hb d_Pf_addConditions_107 ?_
        refine lv_land hx hb d_Pf_addConditions_108 ?_
        obtain ⟨md, hmde, hmd⟩ := ad_made hr10 hbf
        refine ci_l (y := md) hmde ?_
        refine lv_lstore (lv' := [(7, .long md), (0, .ref f0), (1, .int (nI n)), (2, .int y), (3, .long z), (5, .long bf)]) hx hb d_Pf_addConditions_109 hl (by decide) rfl (fun ls hln => ?_)
        replace hl : lv_has ls 10 [(7, .long md), (0, .ref f0), (1, .int (nI n)), (2, .int y), (3, .long z), (5, .long bf)] := hln
        clear hln
        refine lv_iconst (v := 0) hx hb d_Pf_addConditions_111 (by decide) ?_
        refine lv_istore (lv' := [(9, .int 0), (7, .long md), (0, .ref f0), (1, .int (nI n)), (2, .int y), (3, .long z), (5, .long bf)]) hx hb d_Pf_addConditions_112 hl (by decide) rfl (fun ls hln => ?_)
        replace hl : lv_has ls 10 [(9, .int 0), (7, .long md), (0, .ref f0), (1, .int (nI n)), (2, .int y), (3, .long z), (5, .long bf)] := hln
        clear hln
        have hloop11 : ∀ (n114 : Nat) (j : Nat) (fbs2 : Nat → Int64) (hj : j ≤ c2) (hBs : BsA fbs2 pfc c2 Z co j) (H : Heap) (locs : List Loc) (ls : Array Slot) (hl : lv_has ls 10 [(0, .ref f0), (3, .long z), (7, .long md), (9, .int (nI j))]) (hP : va_P (dC, dI) clA [(f1, .inl (cI, 60, .inl fpl2)), (f2, .inl (cI, 60, .inl fmk2)), (f3, .inl (cI, 60, .inl ftk2)), (f4, .inl (cL, 60, .inr (.inl fbs2))), (f5, .inl (cL, 8, .inr (.inl fop2))), (f0, .inr (2, [.int (nI c2), .ref f1, .ref f2, .ref f3, .ref f4, .ref f5, .int (nI pfe), .ref f6, .ref f7, .ref f8, .ref f9, .ref f10, .int pfu, .int pfw]))] H) (hD : va_D A [(f1, .inl (cI, 60, .inl fpl2)), (f2, .inl (cI, 60, .inl fmk2)), (f3, .inl (cI, 60, .inl ftk2)), (f4, .inl (cL, 60, .inr (.inl fbs2))), (f5, .inl (cL, 8, .inr (.inl fop2))), (f0, .inr (2, [.int (nI c2), .ref f1, .ref f2, .ref f3, .ref f4, .ref f5, .int (nI pfe), .ref f6, .ref f7, .ref f8, .ref f9, .ref f10, .int pfu, .int pfw]))]) (hS : va_S A s.heap H locs) (hm114 : c2 - j < n114), W p l e (headSpec (Cond.code y_Pf_addConditions prog_5_method_5_code 10 (some .long) :: wsA) { frames := 1, cells := 0, slots := 0, locals := 22 }).room s m ([.ref f0, .int (nI n), .int y, .long z] : List Value).toArray below meth c H locs 0 0 Q (F0 m 114 ls []) := by
          clear hl hP hD hS
          intro n114
          induction n114 with
          | zero => intro j fbs2 hj hBs H locs ls hl hP hD hS hm; exact absurd hm (Nat.not_lt_zero _)
          | succ n114 hloop11_ih =>
            intro j fbs2 hj hBs H locs ls hl hP hD hS hm114
            refine lv_iload hx hb d_Pf_addConditions_114 (lv_at hl 3 rfl) ?_
            refine lv_aload_n hx hb d_Pf_addConditions_116 rfl (lv_at hl 0 rfl) ?_
            refine va_get (D := (dC, dI)) (ci := 2) (v := .int (nI c2)) (C := "NetUnfolder$Prefix") (T := T_Pf) (N := 14) hx hb ht in_Pf hown hK hP 5 rfl rfl 0 (by decide) (ht _ wd_1_62) (fun _ h9 => h9) rfl d_Pf_addConditions_117 ?_
            refine lv_icmp_ge (tgt := 183) hx hb d_Pf_addConditions_120 (by decide) (fun hb12 => ?_) (fun hb12 => ?_)
            · skip
              replace hb12 := cv_le (a := c2) (b := j) (by omega) (by omega) hb12
              refine lv_lload hx hb d_Pf_addConditions_183 (lv_at hl 2 rfl) ?_
              have hP9 := hP.sub (ws' := [(f0, .inr (2, [.int (nI c2), .ref f1, .ref f2, .ref f3, .ref f4, .ref f5, .int (nI pfe), .ref f6, .ref f7, .ref f8, .ref f9, .ref f10, .int pfu, .int pfw])), (f1, .inl (cI, 60, .inl fpl2)), (f2, .inl (cI, 60, .inl fmk2)), (f3, .inl (cI, 60, .inl ftk2)), (f4, .inl (cL, 60, .inr (.inl fbs2))), (f5, .inl (cL, 8, .inr (.inl fop2)))]) [5, 0, 1, 2, 3, 4] rfl
              have hD9 := hD.sub (ws' := [(f0, .inr (2, [.int (nI c2), .ref f1, .ref f2, .ref f3, .ref f4, .ref f5, .int (nI pfe), .ref f6, .ref f7, .ref f8, .ref f9, .ref f10, .int pfu, .int pfw])), (f1, .inl (cI, 60, .inl fpl2)), (f2, .inl (cI, 60, .inl fmk2)), (f3, .inl (cI, 60, .inl ftk2)), (f4, .inl (cL, 60, .inr (.inl fbs2))), (f5, .inl (cL, 8, .inr (.inl fop2)))]) [5, 0, 1, 2, 3, 4] (by decide) rfl
              subst hQ
              exact W.lret (v := md) hx hb hr (fun t9 ht9 hW => ⟨⟨md, (), rfl, (hmd.congr (fun d => by rw [hc2, hi8])), c2, fpl2, fmk2, ftk2, fbs2, fop2, (hi8 ▸ hc2), (hi8 ▸ hPl), (hi8 ▸ hMk), (hi8 ▸ hTk), (hi8 ▸ hOp2), (by have e9 : j = c2 := (by omega); subst e9; assumption), by rw [ht9]; exact hP9, hD9⟩, hS.F ht9⟩) hS.2.2 d_Pf_addConditions_185
            · skip
              replace hb12 := cv_nle (a := c2) (b := j) (by omega) (by omega) hb12
              refine lv_lload hx hb d_Pf_addConditions_123 (lv_at hl 2 rfl) ?_
              refine lv_iload hx hb d_Pf_addConditions_125 (lv_at hl 3 rfl) ?_
              have hPc : va_P (dC, dI) clA [] _ := pu_P (H := H)
              have hDc : va_D (fun _ => True) [] := pu_D
              have hFc := pu_free hS hA
              refine va_calli (va_runSN (As := [.long md, .int (nI j)]) (rest := []) ⟨hx, hb, hml, hown, ht⟩ (c_NU_has l dC dI cI cL cZ _ md j (by first | assumption | omega | trivial | exact AllLt.zero | exact AllN.zero | exact AllM.zero | exact Or.inl rfl | exact Or.inr rfl)) ⟨va_cnB 2 ht (goodA wd_2_102) rfl rfl rfl hN.2.2.2.2.1 (ht _ wd_1_1) (by decide +kernel) ⟨Nat.le_of_ble_eq_true rfl, Nat.le_of_ble_eq_true rfl⟩, ht _ wd_2_101, trivial⟩ ⟨fun a U g mk q => by obtain ⟨q0, q1, qP, qK, qD, qN⟩ := q; exact ⟨q0, q1, qP, va_K.moved (u := U) (U := U.calling g mk a) (Vm.Alike.refl U.vm) qK, qD, NwA.same (u := U) rfl qN⟩, fun U hU hW => ⟨rfl, by rw [hU], by rw [hU]; exact hPc, va_K.moved hW.alike hK, hDc.weaken (fun _ _ _ _ => trivial), NwA.warm hW hN⟩⟩ rfl rfl hl.1 rfl (lv_room (Nat.le_of_ble_eq_true rfl)) d_Pf_addConditions_127 ⟨Nat.le_of_ble_eq_true rfl, Nat.le_of_ble_eq_true rfl⟩) hS (fun q _ h => hFc q h) hFc (fun r15 u9 t9 H13 locs ht9 hvm hw14 hB hz1 hk1 hSn => ?_)
              replace hP : va_P (dC, dI) clA [(f1, .inl (cI, 60, .inl fpl2)), (f2, .inl (cI, 60, .inl fmk2)), (f3, .inl (cI, 60, .inl ftk2)), (f4, .inl (cL, 60, .inr (.inl fbs2))), (f5, .inl (cL, 8, .inr (.inl fop2))), (f0, .inr (2, [.int (nI c2), .ref f1, .ref f2, .ref f3, .ref f4, .ref f5, .int (nI pfe), .ref f6, .ref f7, .ref f8, .ref f9, .ref f10, .int pfu, .int pfw]))] H13 := pu_keep hP hk1
              replace hS := hSn
              clear hSn hPc hDc hFc hk1 hz1 ht9 hvm hB
              refine W.cs (cells' := 0) (slots' := 0) rfl rfl ?_
              subst hw14
              refine lv_if_eq (tgt := 156) hx hb d_Pf_addConditions_130 (by decide) (fun hb16 => ?_) (fun hb16 => ?_)
              · skip
                have hjo : j < pfc := by rcases Nat.lt_or_ge j pfc with q | q; exact q; exact absurd ⟨q, by omega⟩ (hmd.has.mp hb16)
                refine lv_lload_n hx hb d_Pf_addConditions_156 rfl (lv_at hl 1 rfl) ?_
                refine lv_iload hx hb d_Pf_addConditions_157 (lv_at hl 3 rfl) ?_
                have hPc : va_P (dC, dI) clA [] _ := pu_P (H := H13)
                have hDc : va_D (fun _ => True) [] := pu_D
                have hFc := pu_free hS hA
                refine va_calli (va_runSN (As := [.long z, .int (nI j)]) (rest := []) ⟨hx, hb, hml, hown, ht⟩ (c_NU_has l dC dI cI cL cZ _ z j (by first | assumption | omega | trivial | exact AllLt.zero | exact AllN.zero | exact AllM.zero | exact Or.inl rfl | exact Or.inr rfl)) ⟨va_cnB 2 ht (goodA wd_2_102) rfl rfl rfl hN.2.2.2.2.1 (ht _ wd_1_1) (by decide +kernel) ⟨Nat.le_of_ble_eq_true rfl, Nat.le_of_ble_eq_true rfl⟩, ht _ wd_2_101, trivial⟩ ⟨fun a U g mk q => by obtain ⟨q0, q1, qP, qK, qD, qN⟩ := q; exact ⟨q0, q1, qP, va_K.moved (u := U) (U := U.calling g mk a) (Vm.Alike.refl U.vm) qK, qD, NwA.same (u := U) rfl qN⟩, fun U hU hW => ⟨rfl, by rw [hU], by rw [hU]; exact hPc, va_K.moved hW.alike hK, hDc.weaken (fun _ _ _ _ => trivial), NwA.warm hW hN⟩⟩ rfl rfl hl.1 rfl (lv_room (Nat.le_of_ble_eq_true rfl)) d_Pf_addConditions_159 ⟨Nat.le_of_ble_eq_true rfl, Nat.le_of_ble_eq_true rfl⟩) hS (fun q _ h => hFc q h) hFc (fun r19 u9 t9 H17 locs ht9 hvm hw18 hB hz1 hk1 hSn => ?_)
                replace hP : va_P (dC, dI) clA [(f1, .inl (cI, 60, .inl fpl2)), (f2, .inl (cI, 60, .inl fmk2)), (f3, .inl (cI, 60, .inl ftk2)), (f4, .inl (cL, 60, .inr (.inl fbs2))), (f5, .inl (cL, 8, .inr (.inl fop2))), (f0, .inr (2, [.int (nI c2), .ref f1, .ref f2, .ref f3, .ref f4, .ref f5, .int (nI pfe), .ref f6, .ref f7, .ref f8, .ref f9, .ref f10, .int pfu, .int pfw]))] H17 := pu_keep hP hk1
                replace hS := hSn
                clear hSn hPc hDc hFc hk1 hz1 ht9 hvm hB
                refine W.cs (cells' := 0) (slots' := 0) rfl rfl ?_
                subst hw18
                refine lv_if_eq (tgt := 177) hx hb d_Pf_addConditions_162 (by decide) (fun hb20 => ?_) (fun hb20 => ?_)
                · skip
                  refine lv_iinc (k := 3) (v := nI (j + 1)) (lv' := [(9, .int (nI (j + 1))), (0, .ref f0), (3, .long z), (7, .long md)]) hx hb d_Pf_addConditions_177 hl rfl (nI_1 _) (by decide) rfl (fun ls hln => ?_)
                  replace hl : lv_has ls 10 [(9, .int (nI (j + 1))), (0, .ref f0), (3, .long z), (7, .long md)] := hln
                  clear hln
                  refine lv_goto (tgt := 114) hx hb d_Pf_addConditions_180 (by decide) ?_
                  exact hloop11_ih (j + 1) fbs2 (by first | assumption | omega | trivial | exact AllLt.zero | exact AllN.zero | exact AllM.zero | exact Or.inl rfl | exact Or.inr rfl) (BsA.same hBs hjo (hZB.has.mp hb20)) _ _ ls (lv_sub hl [1, 2, 3, 0] rfl) (hP.sub [0, 1, 2, 3, 4, 5] rfl) (hD.sub [0, 1, 2, 3, 4, 5] (by decide) rfl) hS (by omega)
                · skip
                  have hZj : Z j := Classical.byContradiction (fun z9 => hb20 (hZB.has.mpr z9))
                  refine lv_aload_n hx hb d_Pf_addConditions_165 rfl (lv_at hl 0 rfl) ?_
                  refine va_get (D := (dC, dI)) (ci := 2) (v := .ref f4) (C := "NetUnfolder$Prefix") (T := T_Pf) (N := 14) hx hb ht in_Pf hown hK hP 5 rfl rfl 4 (by decide) (ht _ wd_1_76) (fun _ h9 => h9) rfl d_Pf_addConditions_166 ?_
                  refine lv_iload hx hb d_Pf_addConditions_169 (lv_at hl 3 rfl) ?_
                  refine lv_dup2_11 hx hb d_Pf_addConditions_171 rfl rfl ?_
                  refine na_lald (k := j) hx hb hK hP 3 1 rfl rfl (by omega) (by decide) d_Pf_addConditions_172 ?_
                  refine lv_lload hx hb d_Pf_addConditions_173 (lv_at hl 2 rfl) ?_
                  refine lv_lor hx hb d_Pf_addConditions_175 ?_
                  refine na_last (k := j) hx hb hK hP hD hS 3 1 rfl rfl (by omega) (by decide) d_Pf_addConditions_176 (fun H21 locs hPn hDn hSn => ?_)
                  replace hP : va_P (dC, dI) clA [(f1, .inl (cI, 60, .inl fpl2)), (f2, .inl (cI, 60, .inl fmk2)), (f3, .inl (cI, 60, .inl ftk2)), (f4, .inl (cL, 60, .inr (.inl (vp_updL fbs2 j ((fbs2 j) ||| md))))), (f5, .inl (cL, 8, .inr (.inl fop2))), (f0, .inr (2, [.int (nI c2), .ref f1, .ref f2, .ref f3, .ref f4, .ref f5, .int (nI pfe), .ref f6, .ref f7, .ref f8, .ref f9, .ref f10, .int pfu, .int pfw]))] H21 := hPn
                  replace hD : va_D A [(f1, .inl (cI, 60, .inl fpl2)), (f2, .inl (cI, 60, .inl fmk2)), (f3, .inl (cI, 60, .inl ftk2)), (f4, .inl (cL, 60, .inr (.inl (vp_updL fbs2 j ((fbs2 j) ||| md))))), (f5, .inl (cL, 8, .inr (.inl fop2))), (f0, .inr (2, [.int (nI c2), .ref f1, .ref f2, .ref f3, .ref f4, .ref f5, .int (nI pfe), .ref f6, .ref f7, .ref f8, .ref f9, .ref f10, .int pfu, .int pfw]))] := hDn
                  replace hS := hSn
                  clear hPn hDn hSn
                  refine lv_iinc (k := 3) (v := nI (j + 1)) (lv' := [(9, .int (nI (j + 1))), (0, .ref f0), (3, .long z), (7, .long md)]) hx hb d_Pf_addConditions_177 hl rfl (nI_1 _) (by decide) rfl (fun ls hln => ?_)
                  replace hl : lv_has ls 10 [(9, .int (nI (j + 1))), (0, .ref f0), (3, .long z), (7, .long md)] := hln
                  clear hln
                  refine lv_goto (tgt := 114) hx hb d_Pf_addConditions_180 (by decide) ?_
                  exact hloop11_ih (j + 1) (vp_updL fbs2 j ((fbs2 j) ||| md)) (by first | assumption | omega | trivial | exact AllLt.zero | exact AllN.zero | exact AllM.zero | exact Or.inl rfl | exact Or.inr rfl) (BsA.old hBs hjo hZj hmd) _ _ ls (lv_sub hl [1, 2, 3, 0] rfl) (hP.sub [0, 1, 2, 3, 4, 5] rfl) (hD.sub [0, 1, 2, 3, 4, 5] (by decide) rfl) hS (by omega)
              · skip
                have hjn : pfc ≤ j := (Classical.byContradiction (fun z9 => hb16 (hmd.has.mpr z9)) : pfc ≤ j ∧ j < c2).1
                refine lv_aload_n hx hb d_Pf_addConditions_133 rfl (lv_at hl 0 rfl) ?_
                refine va_get (D := (dC, dI)) (ci := 2) (v := .ref f4) (C := "NetUnfolder$Prefix") (T := T_Pf) (N := 14) hx hb ht in_Pf hown hK hP 5 rfl rfl 4 (by decide) (ht _ wd_1_76) (fun _ h9 => h9) rfl d_Pf_addConditions_134 ?_
                refine lv_iload hx hb d_Pf_addConditions_137 (lv_at hl 3 rfl) ?_
                refine lv_lload_n hx hb d_Pf_addConditions_139 rfl (lv_at hl 1 rfl) ?_
                refine lv_lload hx hb d_Pf_addConditions_140 (lv_at hl 2 rfl) ?_
                refine lv_lor hx hb d_Pf_addConditions_142 ?_
                refine lv_lconst (v := 1) hx hb d_Pf_addConditions_143 (by decide) ?_
                refine lv_iload hx hb d_Pf_addConditions_144 (lv_at hl 3 rfl) ?_
                refine lv_lshl (v := 1 <<< (Int32.toInt64 (nI j) &&& 63)) hx hb d_Pf_addConditions_146 rfl ?_
                refine lv_ldc2 hx hb hown (ht _ wd_2_103) d_Pf_addConditions_147 ?_
                refine lv_lxor hx hb d_Pf_addConditions_150 ?_
                refine lv_land hx hb d_Pf_addConditions_151 ?_
                refine na_last (k := j) hx hb hK hP hD hS 3 1 rfl rfl (by omega) (by decide) d_Pf_addConditions_152 (fun H22 locs hPn hDn hSn => ?_)
                replace hP : va_P (dC, dI) clA [(f1, .inl (cI, 60, .inl fpl2)), (f2, .inl (cI, 60, .inl fmk2)), (f3, .inl (cI, 60, .inl ftk2)), (f4, .inl (cL, 60, .inr (.inl (vp_updL fbs2 j ((z ||| md) &&& ((1 <<< (Int32.toInt64 (nI j) &&& 63)) ^^^ (-1))))))), (f5, .inl (cL, 8, .inr (.inl fop2))), (f0, .inr (2, [.int (nI c2), .ref f1, .ref f2, .ref f3, .ref f4, .ref f5, .int (nI pfe), .ref f6, .ref f7, .ref f8, .ref f9, .ref f10, .int pfu, .int pfw]))] H22 := hPn
                replace hD : va_D A [(f1, .inl (cI, 60, .inl fpl2)), (f2, .inl (cI, 60, .inl fmk2)), (f3, .inl (cI, 60, .inl ftk2)), (f4, .inl (cL, 60, .inr (.inl (vp_updL fbs2 j ((z ||| md) &&& ((1 <<< (Int32.toInt64 (nI j) &&& 63)) ^^^ (-1))))))), (f5, .inl (cL, 8, .inr (.inl fop2))), (f0, .inr (2, [.int (nI c2), .ref f1, .ref f2, .ref f3, .ref f4, .ref f5, .int (nI pfe), .ref f6, .ref f7, .ref f8, .ref f9, .ref f10, .int pfu, .int pfw]))] := hDn
                replace hS := hSn
                clear hPn hDn hSn
                refine lv_goto (tgt := 177) hx hb d_Pf_addConditions_153 (by decide) ?_
                refine lv_iinc (k := 3) (v := nI (j + 1)) (lv' := [(9, .int (nI (j + 1))), (0, .ref f0), (3, .long z), (7, .long md)]) hx hb d_Pf_addConditions_177 hl rfl (nI_1 _) (by decide) rfl (fun ls hln => ?_)
                replace hl : lv_has ls 10 [(9, .int (nI (j + 1))), (0, .ref f0), (3, .long z), (7, .long md)] := hln
                clear hln
                refine lv_goto (tgt := 114) hx hb d_Pf_addConditions_180 (by decide) ?_
                exact hloop11_ih (j + 1) (vp_updL fbs2 j ((z ||| md) &&& ((1 <<< (Int32.toInt64 (nI j) &&& 63)) ^^^ (-1)))) (by first | assumption | omega | trivial | exact AllLt.zero | exact AllN.zero | exact AllM.zero | exact Or.inl rfl | exact Or.inr rfl) (BsA.new hBs hjn (by omega) hZB hmd (fun d q => q.elim (fun r => by have := hZd d r; omega) (fun r => by omega))) _ _ ls (lv_sub hl [1, 2, 3, 0] rfl) (hP.sub [0, 1, 2, 3, 4, 5] rfl) (hD.sub [0, 1, 2, 3, 4, 5] (by decide) rfl) hS (by omega)
        exact hloop11 ((c2 - 0) + 1) 0 fbs (by first | assumption | omega | trivial | exact AllLt.zero | exact AllN.zero | exact AllM.zero | exact Or.inl rfl | exact Or.inr rfl) (BsA.zero hBes) _ _ ls (lv_sub hl [2, 5, 1, 0] rfl) hP hD hS (Nat.lt_succ_self _)
      · skip
        replace hb6 := cv_nle (a := 8) (b := i) (by omega) (by omega) hb6
        refine lv_iload_n hx hb d_Pf_addConditions_16 rfl (lv_at hl 1 rfl) ?_
        refine lv_i2l (v := Int32.toInt64 (nI n)) hx hb d_Pf_addConditions_17 rfl ?_
        refine lv_iload hx hb d_Pf_addConditions_18 (lv_at hl 5 rfl) ?_
        have hPc : va_P (dC, dI) clA [] _ := pu_P (H := H)
        have hDc : va_D (fun _ => True) [] := pu_D
        have hFc := pu_free hS hA
        refine va_calli (va_runSN (As := [.long (Int32.toInt64 (nI n)), .int (nI i)]) (rest := []) ⟨hx, hb, hml, hown, ht⟩ (c_NU_has l dC dI cI cL cZ _ (Int32.toInt64 (nI n)) i (by first | assumption | omega | trivial | exact AllLt.zero | exact AllN.zero | exact AllM.zero | exact Or.inl rfl | exact Or.inr rfl)) ⟨va_cnB 2 ht (goodA wd_2_102) rfl rfl rfl hN.2.2.2.2.1 (ht _ wd_1_1) (by decide +kernel) ⟨Nat.le_of_ble_eq_true rfl, Nat.le_of_ble_eq_true rfl⟩, ht _ wd_2_101, trivial⟩ ⟨fun a U g mk q => by obtain ⟨q0, q1, qP, qK, qD, qN⟩ := q; exact ⟨q0, q1, qP, va_K.moved (u := U) (U := U.calling g mk a) (Vm.Alike.refl U.vm) qK, qD, NwA.same (u := U) rfl qN⟩, fun U hU hW => ⟨rfl, by rw [hU], by rw [hU]; exact hPc, va_K.moved hW.alike hK, hDc.weaken (fun _ _ _ _ => trivial), NwA.warm hW hN⟩⟩ rfl rfl hl.1 rfl (lv_room (Nat.le_of_ble_eq_true rfl)) d_Pf_addConditions_20 ⟨Nat.le_of_ble_eq_true rfl, Nat.le_of_ble_eq_true rfl⟩) hS (fun q _ h => hFc q h) hFc (fun r25 u9 t9 H23 locs ht9 hvm hw24 hB hz1 hk1 hSn => ?_)
        replace hP : va_P (dC, dI) clA [(f1, .inl (cI, 60, .inl fpl2)), (f2, .inl (cI, 60, .inl fmk2)), (f3, .inl (cI, 60, .inl ftk2)), (f4, .inl (cL, 60, .inr (.inl fbs))), (f5, .inl (cL, 8, .inr (.inl fop2))), (f0, .inr (2, [.int (nI c2), .ref f1, .ref f2, .ref f3, .ref f4, .ref f5, .int (nI pfe), .ref f6, .ref f7, .ref f8, .ref f9, .ref f10, .int pfu, .int pfw]))] H23 := pu_keep hP hk1
        replace hS := hSn
        clear hSn hPc hDc hFc hk1 hz1 ht9 hvm hB
        refine W.cs (cells' := 0) (slots' := 0) rfl rfl ?_
        subst hw24
        refine lv_if_eq (tgt := 92) hx hb d_Pf_addConditions_23 (by decide) (fun hb26 => ?_) (fun hb26 => ?_)
        · skip
          have hnb : ¬ n.testBit i = true := (B32.has (B32.ofNat (n := n) (by omega)) (fun p hp => tb31 hn hp)).mp hb26
          refine lv_iinc (k := 5) (v := nI (i + 1)) (lv' := [(7, .int (nI (i + 1))), (0, .ref f0), (1, .int (nI n)), (2, .int y), (3, .long z), (5, .long bf)]) hx hb d_Pf_addConditions_92 hl rfl (nI_1 _) (by decide) rfl (fun ls hln => ?_)
          replace hl : lv_has ls 10 [(7, .int (nI (i + 1))), (0, .ref f0), (1, .int (nI n)), (2, .int y), (3, .long z), (5, .long bf)] := hln
          clear hln
          refine lv_goto (tgt := 9) hx hb d_Pf_addConditions_95 (by decide) ?_
          exact hloop5_ih bf (i + 1) c2 fpl2 fmk2 ftk2 fop2 (by first | assumption | omega | trivial | exact AllLt.zero | exact AllN.zero | exact AllM.zero | exact Or.inl rfl | exact Or.inr rfl) (by rw [bC_s, bN_0 hnb]; omega) (PlA.skip hPl hnb) (CoA.skip hMk hnb) (CoA.skip hTk hnb) (OpA.skip hOp2 hnb) (by first | assumption | omega | trivial | exact AllLt.zero | exact AllN.zero | exact AllM.zero | exact Or.inl rfl | exact Or.inr rfl) _ _ ls (lv_sub hl [1, 2, 3, 4, 5, 0] rfl) (hP.sub [0, 1, 2, 3, 4, 5] rfl) (hD.sub [0, 1, 2, 3, 4, 5] (by decide) rfl) hS (by omega)
        · skip
          have hnb : n.testBit i = true := Classical.byContradiction (fun z9 => hb26 ((B32.has (B32.ofNat (n := n) (by omega)) (fun p hp => tb31 hn hp)).mpr z9))
          have hbs := bC_s n i
          have hb1 := bN_1 hnb
          have hbm1 := bC_mono n (i := i + 1) (k := 8) (by omega)
          refine lv_aload_n hx hb d_Pf_addConditions_26 rfl (lv_at hl 0 rfl) ?_
          refine va_get (D := (dC, dI)) (ci := 2) (v := .int (nI c2)) (C := "NetUnfolder$Prefix") (T := T_Pf) (N := 14) hx hb ht in_Pf hown hK hP 5 rfl rfl 0 (by decide) (ht _ wd_1_62) (fun _ h9 => h9) rfl d_Pf_addConditions_27 ?_
          refine lv_bipush (v := 60) hx hb d_Pf_addConditions_30 (by decide) ?_
          refine lv_icmp_ge (tgt := 92) hx hb d_Pf_addConditions_32 (by decide) (fun hb27 => ?_) (fun hb27 => ?_)
          · skip
            replace hb27 := cv_le (a := 60) (b := c2) (by omega) (by omega) hb27
            exfalso; omega
          · skip
            replace hb27 := cv_nle (a := 60) (b := c2) (by omega) (by omega) hb27
            refine lv_aload_n hx hb d_Pf_addConditions_35 rfl (lv_at hl 0 rfl) ?_
            refine va_get (D := (dC, dI)) (ci := 2) (v := .ref f1) (C := "NetUnfolder$Prefix") (T := T_Pf) (N := 14) hx hb ht in_Pf hown hK hP 5 rfl rfl 1 (by decide) (ht _ wd_1_66) (fun _ h9 => h9) rfl d_Pf_addConditions_36 ?_
            refine lv_aload_n hx hb d_Pf_addConditions_39 rfl (lv_at hl 0 rfl) ?_
            refine va_get (D := (dC, dI)) (ci := 2) (v := .int (nI c2)) (C := "NetUnfolder$Prefix") (T := T_Pf) (N := 14) hx hb ht in_Pf hown hK hP 5 rfl rfl 0 (by decide) (ht _ wd_1_62) (fun _ h9 => h9) rfl d_Pf_addConditions_40 ?_
            refine lv_iload hx hb d_Pf_addConditions_43 (lv_at hl 5 rfl) ?_
            refine na_iast (k := c2) hx hb hK hP hD hS 0 0 rfl rfl (by omega) (by decide) d_Pf_addConditions_45 (fun H28 locs hPn hDn hSn => ?_)
            replace hP : va_P (dC, dI) clA [(f1, .inl (cI, 60, .inl (upd fpl2 c2 (nI i)))), (f2, .inl (cI, 60, .inl fmk2)), (f3, .inl (cI, 60, .inl ftk2)), (f4, .inl (cL, 60, .inr (.inl fbs))), (f5, .inl (cL, 8, .inr (.inl fop2))), (f0, .inr (2, [.int (nI c2), .ref f1, .ref f2, .ref f3, .ref f4, .ref f5, .int (nI pfe), .ref f6, .ref f7, .ref f8, .ref f9, .ref f10, .int pfu, .int pfw]))] H28 := hPn
            replace hD : va_D A [(f1, .inl (cI, 60, .inl (upd fpl2 c2 (nI i)))), (f2, .inl (cI, 60, .inl fmk2)), (f3, .inl (cI, 60, .inl ftk2)), (f4, .inl (cL, 60, .inr (.inl fbs))), (f5, .inl (cL, 8, .inr (.inl fop2))), (f0, .inr (2, [.int (nI c2), .ref f1, .ref f2, .ref f3, .ref f4, .ref f5, .int (nI pfe), .ref f6, .ref f7, .ref f8, .ref f9, .ref f10, .int pfu, .int pfw]))] := hDn
            replace hS := hSn
            clear hPn hDn hSn
            refine lv_aload_n hx hb d_Pf_addConditions_46 rfl (lv_at hl 0 rfl) ?_
            refine va_get (D := (dC, dI)) (ci := 2) (v := .ref f2) (C := "NetUnfolder$Prefix") (T := T_Pf) (N := 14) hx hb ht in_Pf hown hK hP 5 rfl rfl 2 (by decide) (ht _ wd_1_70) (fun _ h9 => h9) rfl d_Pf_addConditions_47 ?_
            refine lv_aload_n hx hb d_Pf_addConditions_50 rfl (lv_at hl 0 rfl) ?_
            refine va_get (D := (dC, dI)) (ci := 2) (v := .int (nI c2)) (C := "NetUnfolder$Prefix") (T := T_Pf) (N := 14) hx hb ht in_Pf hown hK hP 5 rfl rfl 0 (by decide) (ht _ wd_1_62) (fun _ h9 => h9) rfl d_Pf_addConditions_51 ?_
            refine lv_iload_n hx hb d_Pf_addConditions_54 rfl (lv_at hl 2 rfl) ?_
            refine na_iast (k := c2) hx hb hK hP hD hS 1 0 rfl rfl (by omega) (by decide) d_Pf_addConditions_55 (fun H29 locs hPn hDn hSn => ?_)
            replace hP : va_P (dC, dI) clA [(f1, .inl (cI, 60, .inl (upd fpl2 c2 (nI i)))), (f2, .inl (cI, 60, .inl (upd fmk2 c2 y))), (f3, .inl (cI, 60, .inl ftk2)), (f4, .inl (cL, 60, .inr (.inl fbs))), (f5, .inl (cL, 8, .inr (.inl fop2))), (f0, .inr (2, [.int (nI c2), .ref f1, .ref f2, .ref f3, .ref f4, .ref f5, .int (nI pfe), .ref f6, .ref f7, .ref f8, .ref f9, .ref f10, .int pfu, .int pfw]))] H29 := hPn
            replace hD : va_D A [(f1, .inl (cI, 60, .inl (upd fpl2 c2 (nI i)))), (f2, .inl (cI, 60, .inl (upd fmk2 c2 y))), (f3, .inl (cI, 60, .inl ftk2)), (f4, .inl (cL, 60, .inr (.inl fbs))), (f5, .inl (cL, 8, .inr (.inl fop2))), (f0, .inr (2, [.int (nI c2), .ref f1, .ref f2, .ref f3, .ref f4, .ref f5, .int (nI pfe), .ref f6, .ref f7, .ref f8, .ref f9, .ref f10, .int pfu, .int pfw]))] := hDn
            replace hS := hSn
            clear hPn hDn hSn
            refine lv_aload_n hx hb d_Pf_addConditions_56 rfl (lv_at hl 0 rfl) ?_
            refine va_get (D := (dC, dI)) (ci := 2) (v := .ref f3) (C := "NetUnfolder$Prefix") (T := T_Pf) (N := 14) hx hb ht in_Pf hown hK hP 5 rfl rfl 3 (by decide) (ht _ wd_1_73) (fun _ h9 => h9) rfl d_Pf_addConditions_57 ?_
            refine lv_aload_n hx hb d_Pf_addConditions_60 rfl (lv_at hl 0 rfl) ?_
            refine va_get (D := (dC, dI)) (ci := 2) (v := .int (nI c2)) (C := "NetUnfolder$Prefix") (T := T_Pf) (N := 14) hx hb ht in_Pf hown hK hP 5 rfl rfl 0 (by decide) (ht _ wd_1_62) (fun _ h9 => h9) rfl d_Pf_addConditions_61 ?_
            refine lv_iconst (v := 0) hx hb d_Pf_addConditions_64 (by decide) ?_
            refine na_iast (k := c2) hx hb hK hP hD hS 2 0 rfl rfl (by omega) (by decide) d_Pf_addConditions_65 (fun H30 locs hPn hDn hSn => ?_)
            replace hP : va_P (dC, dI) clA [(f1, .inl (cI, 60, .inl (upd fpl2 c2 (nI i)))), (f2, .inl (cI, 60, .inl (upd fmk2 c2 y))), (f3, .inl (cI, 60, .inl (upd ftk2 c2 0))), (f4, .inl (cL, 60, .inr (.inl fbs))), (f5, .inl (cL, 8, .inr (.inl fop2))), (f0, .inr (2, [.int (nI c2), .ref f1, .ref f2, .ref f3, .ref f4, .ref f5, .int (nI pfe), .ref f6, .ref f7, .ref f8, .ref f9, .ref f10, .int pfu, .int pfw]))] H30 := hPn
            replace hD : va_D A [(f1, .inl (cI, 60, .inl (upd fpl2 c2 (nI i)))), (f2, .inl (cI, 60, .inl (upd fmk2 c2 y))), (f3, .inl (cI, 60, .inl (upd ftk2 c2 0))), (f4, .inl (cL, 60, .inr (.inl fbs))), (f5, .inl (cL, 8, .inr (.inl fop2))), (f0, .inr (2, [.int (nI c2), .ref f1, .ref f2, .ref f3, .ref f4, .ref f5, .int (nI pfe), .ref f6, .ref f7, .ref f8, .ref f9, .ref f10, .int pfu, .int pfw]))] := hDn
            replace hS := hSn
            clear hPn hDn hSn
            refine lv_aload_n hx hb d_Pf_addConditions_66 rfl (lv_at hl 0 rfl) ?_
            refine va_get (D := (dC, dI)) (ci := 2) (v := .ref f5) (C := "NetUnfolder$Prefix") (T := T_Pf) (N := 14) hx hb ht in_Pf hown hK hP 5 rfl rfl 5 (by decide) (ht _ wd_1_79) (fun _ h9 => h9) rfl d_Pf_addConditions_67 ?_
            refine lv_iload hx hb d_Pf_addConditions_70 (lv_at hl 5 rfl) ?_
            refine lv_dup2_11 hx hb d_Pf_addConditions_72 rfl rfl ?_
            refine na_lald (k := i) hx hb hK hP 4 1 rfl rfl (by omega) (by decide) d_Pf_addConditions_73 ?_
            refine lv_lconst (v := 1) hx hb d_Pf_addConditions_74 (by decide) ?_
            refine lv_aload_n hx hb d_Pf_addConditions_75 rfl (lv_at hl 0 rfl) ?_
            refine va_get (D := (dC, dI)) (ci := 2) (v := .int (nI c2)) (C := "NetUnfolder$Prefix") (T := T_Pf) (N := 14) hx hb ht in_Pf hown hK hP 5 rfl rfl 0 (by decide) (ht _ wd_1_62) (fun _ h9 => h9) rfl d_Pf_addConditions_76 ?_
            refine lv_lshl (v := 1 <<< (Int32.toInt64 (nI c2) &&& 63)) hx hb d_Pf_addConditions_79 rfl ?_
            refine lv_lor hx hb d_Pf_addConditions_80 ?_
            refine na_last (k := i) hx hb hK hP hD hS 4 1 rfl rfl (by omega) (by decide) d_Pf_addConditions_81 (fun H31 locs hPn hDn hSn => ?_)
            replace hP : va_P (dC, dI) clA [(f1, .inl (cI, 60, .inl (upd fpl2 c2 (nI i)))), (f2, .inl (cI, 60, .inl (upd fmk2 c2 y))), (f3, .inl (cI, 60, .inl (upd ftk2 c2 0))), (f4, .inl (cL, 60, .inr (.inl fbs))), (f5, .inl (cL, 8, .inr (.inl (vp_updL fop2 i ((fop2 i) ||| (1 <<< (Int32.toInt64 (nI c2) &&& 63))))))), (f0, .inr (2, [.int (nI c2), .ref f1, .ref f2, .ref f3, .ref f4, .ref f5, .int (nI pfe), .ref f6, .ref f7, .ref f8, .ref f9, .ref f10, .int pfu, .int pfw]))] H31 := hPn
            replace hD : va_D A [(f1, .inl (cI, 60, .inl (upd fpl2 c2 (nI i)))), (f2, .inl (cI, 60, .inl (upd fmk2 c2 y))), (f3, .inl (cI, 60, .inl (upd ftk2 c2 0))), (f4, .inl (cL, 60, .inr (.inl fbs))), (f5, .inl (cL, 8, .inr (.inl (vp_updL fop2 i ((fop2 i) ||| (1 <<< (Int32.toInt64 (nI c2) &&& 63))))))), (f0, .inr (2, [.int (nI c2), .ref f1, .ref f2, .ref f3, .ref f4, .ref f5, .int (nI pfe), .ref f6, .ref f7, .ref f8, .ref f9, .ref f10, .int pfu, .int pfw]))] := hDn
            replace hS := hSn
            clear hPn hDn hSn
            refine lv_aload_n hx hb d_Pf_addConditions_82 rfl (lv_at hl 0 rfl) ?_
            refine lv_dup hx hb d_Pf_addConditions_83 rfl ?_
            refine va_get (D := (dC, dI)) (ci := 2) (v := .int (nI c2)) (C := "NetUnfolder$Prefix") (T := T_Pf) (N := 14) hx hb ht in_Pf hown hK hP 5 rfl rfl 0 (by decide) (ht _ wd_1_62) (fun _ h9 => h9) rfl d_Pf_addConditions_84 ?_
            refine lv_iconst (v := 1) hx hb d_Pf_addConditions_87 (by decide) ?_
            refine lv_iadd hx hb d_Pf_addConditions_88 ?_
            refine ci_i (y := nI (c2 + 1)) (cv_add c2 1) ?_
            refine va_put (D := (dC, dI)) (ci := 2) (v := .int (nI (c2 + 1))) (ty := .int) (C := "NetUnfolder$Prefix") (T := T_Pf) (N := 14) hx hb ht in_Pf ty_Pf ok_Pf nm_Pf hown hK hP hD hS 5 rfl rfl 0 (by decide) (ht _ wd_1_62) (fun _ h9 => h9) rfl (by decide +kernel) rfl rfl (Nat.le_of_ble_eq_true rfl) d_Pf_addConditions_89 (fun H32 locs hPn hDn hSn => ?_)
            replace hP : va_P (dC, dI) clA [(f1, .inl (cI, 60, .inl (upd fpl2 c2 (nI i)))), (f2, .inl (cI, 60, .inl (upd fmk2 c2 y))), (f3, .inl (cI, 60, .inl (upd ftk2 c2 0))), (f4, .inl (cL, 60, .inr (.inl fbs))), (f5, .inl (cL, 8, .inr (.inl (vp_updL fop2 i ((fop2 i) ||| (1 <<< (Int32.toInt64 (nI c2) &&& 63))))))), (f0, .inr (2, [.int (nI (c2 + 1)), .ref f1, .ref f2, .ref f3, .ref f4, .ref f5, .int (nI pfe), .ref f6, .ref f7, .ref f8, .ref f9, .ref f10, .int pfu, .int pfw]))] H32 := hPn
            replace hD : va_D A [(f1, .inl (cI, 60, .inl (upd fpl2 c2 (nI i)))), (f2, .inl (cI, 60, .inl (upd fmk2 c2 y))), (f3, .inl (cI, 60, .inl (upd ftk2 c2 0))), (f4, .inl (cL, 60, .inr (.inl fbs))), (f5, .inl (cL, 8, .inr (.inl (vp_updL fop2 i ((fop2 i) ||| (1 <<< (Int32.toInt64 (nI c2) &&& 63))))))), (f0, .inr (2, [.int (nI (c2 + 1)), .ref f1, .ref f2, .ref f3, .ref f4, .ref f5, .int (nI pfe), .ref f6, .ref f7, .ref f8, .ref f9, .ref f10, .int pfu, .int pfw]))] := hDn
            replace hS := hSn
            clear hPn hDn hSn
            refine lv_iinc (k := 5) (v := nI (i + 1)) (lv' := [(7, .int (nI (i + 1))), (0, .ref f0), (1, .int (nI n)), (2, .int y), (3, .long z), (5, .long bf)]) hx hb d_Pf_addConditions_92 hl rfl (nI_1 _) (by decide) rfl (fun ls hln => ?_)
            replace hl : lv_has ls 10 [(7, .int (nI (i + 1))), (0, .ref f0), (1, .int (nI n)), (2, .int y), (3, .long z), (5, .long bf)] := hln
            clear hln
            refine lv_goto (tgt := 9) hx hb d_Pf_addConditions_95 (by decide) ?_
            exact hloop5_ih bf (i + 1) (c2 + 1) (upd fpl2 c2 (nI i)) (upd fmk2 c2 y) (upd ftk2 c2 0) (vp_updL fop2 i ((fop2 i) ||| (1 <<< (Int32.toInt64 (nI c2) &&& 63)))) (by first | assumption | omega | trivial | exact AllLt.zero | exact AllN.zero | exact AllM.zero | exact Or.inl rfl | exact Or.inr rfl) (by rw [bC_s, bN_1 hnb]; omega) (PlA.put hPl hn (by omega) hnb hc2) (CoA.put hMk hnb hc2) (CoA.put hTk hnb hc2) (OpA.put hOp2 hnb hc2 (by omega)) (by first | assumption | omega | trivial | exact AllLt.zero | exact AllN.zero | exact AllM.zero | exact Or.inl rfl | exact Or.inr rfl) _ _ ls (lv_sub hl [1, 2, 3, 4, 5, 0] rfl) (hP.sub [0, 1, 2, 3, 4, 5] rfl) (hD.sub [0, 1, 2, 3, 4, 5] (by decide) rfl) hS (by omega)
  exact hloop5 ((8 - 0) + 1) r3 0 pfc fpl fmk ftk fop (by first | assumption | omega | trivial | exact AllLt.zero | exact AllN.zero | exact AllM.zero | exact Or.inl rfl | exact Or.inr rfl) rfl PlA.zero CoA.zero CoA.zero (OpA.zero hOp) (by first | assumption | omega | trivial | exact AllLt.zero | exact AllN.zero | exact AllM.zero | exact Or.inl rfl | exact Or.inr rfl) _ _ ls (lv_sub hl [2, 3, 4, 5, 1, 0] rfl) hP hD hS (Nat.lt_succ_self _)
