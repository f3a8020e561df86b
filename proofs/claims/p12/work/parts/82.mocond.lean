set_option maxHeartbeats 4000000 in
set_option maxRecDepth 100000 in
theorem e_Mo_takenBy (l : Launch) (dC : Nat → ClassId) (dI : Nat → Nat → Nat) (cI cL cZ : ClassId) (sz : Nat) (m0 : Nat) (m1 : Nat) (m2 : Nat) (m3 : Nat) (m4 : Nat) (m5 : Nat) (m6 : Nat) (m7 : Nat) (m8 : Nat) (m9 : Nat) (m10 : Nat) (m11 : Nat) (m12 : Nat) (m13 : Nat) (m14 : Nat) (m15 : Nat) (m16 : Nat) (m17 : Nat) (mth : Int32) (mt : Nat) (mf : Int32) (mcd : Nat) (mev : Nat) (mwh : Int32) (mps : Int32) (mlr : Int64) (mlt : Nat) (mlm : Nat) (mln : Int32) (gtn : Nat → Int64) (x : Int64) (X : Nat → Prop) (tk : Nat → Nat → Prop) (hev : mev ≤ 30) (hXB : B64 x X) (hTn : ∀ a, a < mev → B64 (gtn a) (tk a)) : Met l y_Mo_takenBy (Cond.code y_Mo_takenBy prog_11_method_10_code 6 (some .long) :: wsA) { frames := 1, cells := 0, slots := 0, locals := 22 } (va_Pc [.ref m0, .long x] (fun U => U.heap.size = sz ∧ va_P (dC, dI) clA [(m0, .inr (9, [.int mth, .int (nI mt), .ref m1, .ref m2, .int mf, .int (nI mcd), .ref m3, .ref m4, .ref m5, .ref m6, .int (nI mev), .ref m7, .ref m8, .ref m9, .ref m10, .ref m11, .ref m12, .ref m13, .int mwh, .int mps, .ref m14, .ref m15, .long mlr, .int (nI mlt), .int (nI mlm), .ref m16, .int mln, .ref m17])), (m9, .inl (cL, 30, .inr (.inl gtn)))] U.heap ∧ va_K (dC, dI) clA [(cI, .int), (cL, .long), (cZ, .boolean)] U ∧ va_D (fun _ => True) [(m0, .inr (9, [.int mth, .int (nI mt), .ref m1, .ref m2, .int mf, .int (nI mcd), .ref m3, .ref m4, .ref m5, .ref m6, .int (nI mev), .ref m7, .ref m8, .ref m9, .ref m10, .ref m11, .ref m12, .ref m13, .int mwh, .int mps, .ref m14, .ref m15, .long mlr, .int (nI mlt), .int (nI mlm), .ref m16, .int mln, .ref m17])), (m9, .inl (cL, 30, .inr (.inl gtn)))] ∧ NwA U)) (va_Ql (fun r (_ : Unit) => (TkB r mev X tk)) (fun _ t => va_P (dC, dI) clA [(m0, .inr (9, [.int mth, .int (nI mt), .ref m1, .ref m2, .int mf, .int (nI mcd), .ref m3, .ref m4, .ref m5, .ref m6, .int (nI mev), .ref m7, .ref m8, .ref m9, .ref m10, .ref m11, .ref m12, .ref m13, .int mwh, .int mps, .ref m14, .ref m15, .long mlr, .int (nI mlt), .int (nI mlm), .ref m16, .int mln, .ref m17])), (m9, .inl (cL, 30, .inr (.inl gtn)))] t.heap ∧ va_D (va_A [(m0, .inr (9, [.int mth, .int (nI mt), .ref m1, .ref m2, .int mf, .int (nI mcd), .ref m3, .ref m4, .ref m5, .ref m6, .int (nI mev), .ref m7, .ref m8, .ref m9, .ref m10, .ref m11, .ref m12, .ref m13, .int mwh, .int mps, .ref m14, .ref m15, .long mlr, .int (nI mlt), .int (nI mlm), .ref m16, .int mln, .ref m17])), (m9, .inl (cL, 30, .inr (.inl gtn)))] sz) [(m0, .inr (9, [.int mth, .int (nI mt), .ref m1, .ref m2, .int mf, .int (nI mcd), .ref m3, .ref m4, .ref m5, .ref m6, .int (nI mev), .ref m7, .ref m8, .ref m9, .ref m10, .ref m11, .ref m12, .ref m13, .int mwh, .int mps, .ref m14, .ref m15, .long mlr, .int (nI mlt), .int (nI mlm), .ref m16, .int mln, .ref m17])), (m9, .inl (cL, 30, .inr (.inl gtn)))]) (va_A [(m0, .inr (9, [.int mth, .int (nI mt), .ref m1, .ref m2, .int mf, .int (nI mcd), .ref m3, .ref m4, .ref m5, .ref m6, .int (nI mev), .ref m7, .ref m8, .ref m9, .ref m10, .ref m11, .ref m12, .ref m13, .int mwh, .int mps, .ref m14, .ref m15, .long mlr, .int (nI mlt), .int (nI mlm), .ref m16, .int mln, .ref m17])), (m9, .inl (cL, 30, .inr (.inl gtn)))] sz)) 0 0 (va_A [(m0, .inr (9, [.int mth, .int (nI mt), .ref m1, .ref m2, .int mf, .int (nI mcd), .ref m3, .ref m4, .ref m5, .ref m6, .int (nI mev), .ref m7, .ref m8, .ref m9, .ref m10, .ref m11, .ref m12, .ref m13, .int mwh, .int mps, .ref m14, .ref m15, .long mlr, .int (nI mlt), .int (nI mlm), .ref m16, .int mln, .ref m17])), (m9, .inl (cL, 30, .inr (.inl gtn)))] sz) := by
  refine Met.ofW (cc := prog_11_method_10_code) (maxL := 6) (ret := (some .long)) (by decide) rfl ?_
  intro p e s m args below meth c s₁ B hml hv
  obtain ⟨rfl, hsz, hP, hK, hD0, hN⟩ := hv
  have hx := B.exec
  have hb := B.bytes
  have hr := B.returns
  have ht : ∀ w ∈ wsA, w.before _ s = true := fun w h => atoms_spec (ws := (Cond.code y_Mo_takenBy prog_11_method_10_code 6 (some .long) :: wsA)) B.pre w (List.mem_cons_of_mem _ h)
  have hown : s.vm.findClass "NetUnfolderModel" = some m.cls := findClass_of_methodNamed B.named
  have hlocks := B.notSynchronized
  subst hsz
  have hD := hD0.self (sz := s.heap.size)
  generalize hAe : va_A [(m0, .inr (9, [.int mth, .int (nI mt), .ref m1, .ref m2, .int mf, .int (nI mcd), .ref m3, .ref m4, .ref m5, .ref m6, .int (nI mev), .ref m7, .ref m8, .ref m9, .ref m10, .ref m11, .ref m12, .ref m13, .int mwh, .int mps, .ref m14, .ref m15, .long mlr, .int (nI mlt), .int (nI mlm), .ref m16, .int mln, .ref m17])), (m9, .inl (cL, 30, .inr (.inl gtn)))] s.heap.size = A at hD ⊢
  have hA : ∀ q : Nat, s.heap.size ≤ q → A q := fun q h => by rw [← hAe]; exact Or.inr h
  have hS : va_S A s.heap s.heap [] := va_S.rf
  have hl := lv_entry ([.ref m0, .long x]) (n := 6) (Nat.le_of_ble_eq_true rfl)
  rw [lg_entry_eq]
  generalize (lg_sl ([.ref m0, .long x]) ++ List.replicate (6 - (lg_sl ([.ref m0, .long x])).length) Slot.unset).toArray = ls at hl ⊢
  replace hl : lv_has ls 6 [(0, .ref m0), (1, .long x)] := hl
  refine W_Q (fun Q hQ => ?_)
  refine lv_lconst (v := 0) hx hb d_Mo_takenBy_0 (by decide) ?_
  refine lv_lstore_n (lv' := [(3, .long 0), (0, .ref m0), (1, .long x)]) hx hb d_Mo_takenBy_1 rfl hl (by decide) rfl (fun ls hln => ?_)
  replace hl : lv_has ls 6 [(3, .long 0), (0, .ref m0), (1, .long x)] := hln
  clear hln
  refine lv_iconst (v := 0) hx hb d_Mo_takenBy_2 (by decide) ?_
  refine lv_istore (lv' := [(5, .int 0), (3, .long 0), (0, .ref m0), (1, .long x)]) hx hb d_Mo_takenBy_3 hl (by decide) rfl (fun ls hln => ?_)
  replace hl : lv_has ls 6 [(5, .int 0), (3, .long 0), (0, .ref m0), (1, .long x)] := hln
  clear hln
  have hloop1 : ∀ (n5 : Nat) (v : Int64) (i : Nat) (hi : i ≤ mev) (hv : B64 v (fun y => ∃ f, f < i ∧ (X f ∧ tk f y))) (hcf : CfI i X tk) (H : Heap) (locs : List Loc) (ls : Array Slot) (hl : lv_has ls 6 [(0, .ref m0), (1, .long x), (3, .long v), (5, .int (nI i))]) (hP : va_P (dC, dI) clA [(m0, .inr (9, [.int mth, .int (nI mt), .ref m1, .ref m2, .int mf, .int (nI mcd), .ref m3, .ref m4, .ref m5, .ref m6, .int (nI mev), .ref m7, .ref m8, .ref m9, .ref m10, .ref m11, .ref m12, .ref m13, .int mwh, .int mps, .ref m14, .ref m15, .long mlr, .int (nI mlt), .int (nI mlm), .ref m16, .int mln, .ref m17])), (m9, .inl (cL, 30, .inr (.inl gtn)))] H) (hD : va_D A [(m0, .inr (9, [.int mth, .int (nI mt), .ref m1, .ref m2, .int mf, .int (nI mcd), .ref m3, .ref m4, .ref m5, .ref m6, .int (nI mev), .ref m7, .ref m8, .ref m9, .ref m10, .ref m11, .ref m12, .ref m13, .int mwh, .int mps, .ref m14, .ref m15, .long mlr, .int (nI mlt), .int (nI mlm), .ref m16, .int mln, .ref m17])), (m9, .inl (cL, 30, .inr (.inl gtn)))]) (hS : va_S A s.heap H locs) (hm5 : mev - i < n5), W p l e (headSpec (Cond.code y_Mo_takenBy prog_11_method_10_code 6 (some .long) :: wsA) { frames := 1, cells := 0, slots := 0, locals := 22 }).room s m ([.ref m0, .long x] : List Value).toArray below meth c H locs 0 0 Q (F0 m 5 ls []) := by
    clear hl hP hD hS
    intro n5
    induction n5 with
    | zero => intro v i hi hv hcf H locs ls hl hP hD hS hm; exact absurd hm (Nat.not_lt_zero _)
    | succ n5 hloop1_ih =>
      intro v i hi hv hcf H locs ls hl hP hD hS hm5
      refine lv_iload hx hb d_Mo_takenBy_5 (lv_at hl 3 rfl) ?_
      refine lv_aload_n hx hb d_Mo_takenBy_7 rfl (lv_at hl 0 rfl) ?_
      refine va_get (D := (dC, dI)) (ci := 9) (v := .int (nI mev)) (C := "NetUnfolderModel") (T := T_Mo) (N := 28) hx hb ht in_Mo hown hK hP 0 rfl rfl 10 (by decide) (ht _ wd_4_10) (fun _ h9 => h9) rfl d_Mo_takenBy_8 ?_
      refine lv_icmp_ge (tgt := 60) hx hb d_Mo_takenBy_11 (by decide) (fun hb2 => ?_) (fun hb2 => ?_)
      · skip
        replace hb2 := cv_le (a := mev) (b := i) (by omega) (by omega) hb2
        refine lv_lload_n hx hb d_Mo_takenBy_60 rfl (lv_at hl 2 rfl) ?_
        have hP9 := hP.sub (ws' := [(m0, .inr (9, [.int mth, .int (nI mt), .ref m1, .ref m2, .int mf, .int (nI mcd), .ref m3, .ref m4, .ref m5, .ref m6, .int (nI mev), .ref m7, .ref m8, .ref m9, .ref m10, .ref m11, .ref m12, .ref m13, .int mwh, .int mps, .ref m14, .ref m15, .long mlr, .int (nI mlt), .int (nI mlm), .ref m16, .int mln, .ref m17])), (m9, .inl (cL, 30, .inr (.inl gtn)))]) [0, 1] rfl
        have hD9 := hD.sub (ws' := [(m0, .inr (9, [.int mth, .int (nI mt), .ref m1, .ref m2, .int mf, .int (nI mcd), .ref m3, .ref m4, .ref m5, .ref m6, .int (nI mev), .ref m7, .ref m8, .ref m9, .ref m10, .ref m11, .ref m12, .ref m13, .int mwh, .int mps, .ref m14, .ref m15, .long mlr, .int (nI mlt), .int (nI mlm), .ref m16, .int mln, .ref m17])), (m9, .inl (cL, 30, .inr (.inl gtn)))]) [0, 1] (by decide) rfl
        subst hQ
        exact W.lret (v := v) hx hb hr (fun t9 ht9 hW => ⟨⟨v, (), rfl, (Or.inr ⟨hcf.end (by omega), hv.congr (fun y => by have e9 : i = mev := (by omega); rw [e9])⟩), by rw [ht9]; exact hP9, hD9⟩, hS.F ht9⟩) hS.2.2 d_Mo_takenBy_61
      · skip
        replace hb2 := cv_nle (a := mev) (b := i) (by omega) (by omega) hb2
        refine lv_lload_n hx hb d_Mo_takenBy_14 rfl (lv_at hl 1 rfl) ?_
        refine lv_iload hx hb d_Mo_takenBy_15 (lv_at hl 3 rfl) ?_
        have hPc : va_P (dC, dI) clA [] _ := pu_P (H := H)
        have hDc : va_D (fun _ => True) [] := pu_D
        have hFc := pu_free hS hA
        refine va_calli (va_runS (As := [.long x, .int (nI i)]) (rest := []) ⟨hx, hb, hml, hown, ht⟩ (c_Mo_has l dC dI cI cL cZ _ x i (by first | assumption | omega | trivial | exact AllLt.zero | exact AllN.zero | exact AllM.zero | exact Or.inl rfl | exact Or.inr rfl)) (va_cwS 2 ht (good_S wd_4_121 wd_4_122 wd_1_10 wd_4_123) rfl rfl rfl (by decide +kernel) ⟨Nat.le_of_ble_eq_true rfl, Nat.le_of_ble_eq_true rfl⟩) ⟨fun a U g mk q => by obtain ⟨q0, q1, qP, qK, qD, qN⟩ := q; exact ⟨q0, q1, qP, va_K.moved (u := U) (U := U.calling g mk a) (Vm.Alike.refl U.vm) qK, qD, NwA.same (u := U) rfl qN⟩, fun U hU hW => ⟨rfl, by rw [hU], by rw [hU]; exact hPc, va_K.moved hW.alike hK, hDc.weaken (fun _ _ _ _ => trivial), NwA.warm hW hN⟩⟩ rfl rfl hl.1 rfl (lv_room (Nat.le_of_ble_eq_true rfl)) d_Mo_takenBy_17 ⟨Nat.le_of_ble_eq_true rfl, Nat.le_of_ble_eq_true rfl⟩) hS (fun q _ h => hFc q h) hFc (fun r5 u9 t9 H3 locs ht9 hvm hw4 hB hz1 hk1 hSn => ?_)
        replace hP : va_P (dC, dI) clA [(m0, .inr (9, [.int mth, .int (nI mt), .ref m1, .ref m2, .int mf, .int (nI mcd), .ref m3, .ref m4, .ref m5, .ref m6, .int (nI mev), .ref m7, .ref m8, .ref m9, .ref m10, .ref m11, .ref m12, .ref m13, .int mwh, .int mps, .ref m14, .ref m15, .long mlr, .int (nI mlt), .int (nI mlm), .ref m16, .int mln, .ref m17])), (m9, .inl (cL, 30, .inr (.inl gtn)))] H3 := pu_keep hP hk1
        replace hS := hSn
        clear hSn hPc hDc hFc hk1 hz1 ht9 hvm hB
        refine W.cs (cells' := 0) (slots' := 0) rfl rfl ?_
        subst hw4
        refine lv_if_ne (tgt := 26) hx hb d_Mo_takenBy_20 (by decide) (fun hb6 => ?_) (fun hb6 => ?_)
        · skip
          have hXi : X i := Classical.byContradiction (fun z9 => hb6 (hXB.has.mpr z9))
          refine lv_lload_n hx hb d_Mo_takenBy_26 rfl (lv_at hl 2 rfl) ?_
          refine lv_aload_n hx hb d_Mo_takenBy_27 rfl (lv_at hl 0 rfl) ?_
          refine va_get (D := (dC, dI)) (ci := 9) (v := .ref m9) (C := "NetUnfolderModel") (T := T_Mo) (N := 28) hx hb ht in_Mo hown hK hP 0 rfl rfl 13 (by decide) (ht _ wd_4_13) (fun _ h9 => h9) rfl d_Mo_takenBy_28 ?_
          refine lv_iload hx hb d_Mo_takenBy_31 (lv_at hl 3 rfl) ?_
          refine na_lald (k := i) hx hb hK hP 1 1 rfl rfl (by omega) (by decide) d_Mo_takenBy_33 ?_
          refine lv_land hx hb d_Mo_takenBy_34 ?_
          refine lv_lconst (v := 0) hx hb d_Mo_takenBy_35 (by decide) ?_
          refine W.lcmp hx hb d_Mo_takenBy_36 ?_
          refine lv_if_eq (tgt := 44) hx hb d_Mo_takenBy_37 (by decide) (fun hb7 => ?_) (fun hb7 => ?_)
          · skip
            have hno9 := (hv.and (hTn i (by omega))).nz.mp ((lg_cmp_eq _ _).mp hb7)
            refine lv_lload_n hx hb d_Mo_takenBy_44 rfl (lv_at hl 2 rfl) ?_
            refine lv_aload_n hx hb d_Mo_takenBy_45 rfl (lv_at hl 0 rfl) ?_
            refine va_get (D := (dC, dI)) (ci := 9) (v := .ref m9) (C := "NetUnfolderModel") (T := T_Mo) (N := 28) hx hb ht in_Mo hown hK hP 0 rfl rfl 13 (by decide) (ht _ wd_4_13) (fun _ h9 => h9) rfl d_Mo_takenBy_46 ?_
            refine lv_iload hx hb d_Mo_takenBy_49 (lv_at hl 3 rfl) ?_
            refine na_lald (k := i) hx hb hK hP 1 1 rfl rfl (by omega) (by decide) d_Mo_takenBy_51 ?_
            refine lv_lor hx hb d_Mo_takenBy_52 ?_
            refine lv_lstore_n (lv' := [(3, .long (v ||| (gtn i))), (0, .ref m0), (1, .long x), (5, .int (nI i))]) hx hb d_Mo_takenBy_53 rfl hl (by decide) rfl (fun ls hln => ?_)
            replace hl : lv_has ls 6 [(3, .long (v ||| (gtn i))), (0, .ref m0), (1, .long x), (5, .int (nI i))] := hln
            clear hln
            refine lv_iinc (k := 3) (v := nI (i + 1)) (lv' := [(5, .int (nI (i + 1))), (3, .long (v ||| (gtn i))), (0, .ref m0), (1, .long x)]) hx hb d_Mo_takenBy_54 hl rfl (nI_1 _) (by decide) rfl (fun ls hln => ?_)
            replace hl : lv_has ls 6 [(5, .int (nI (i + 1))), (3, .long (v ||| (gtn i))), (0, .ref m0), (1, .long x)] := hln
            clear hln
            refine lv_goto (tgt := 5) hx hb d_Mo_takenBy_57 (by decide) ?_
            exact hloop1_ih (v ||| (gtn i)) (i + 1) (by first | assumption | omega | trivial | exact AllLt.zero | exact AllN.zero | exact AllM.zero | exact Or.inl rfl | exact Or.inr rfl) (a64_or hv ((hTn i (by omega)).congr (fun y => ⟨fun q => ⟨hXi, q⟩, fun q => q.2⟩))) (CfI.put hcf hno9) _ _ ls (lv_sub hl [2, 3, 1, 0] rfl) (hP.sub [0, 1] rfl) (hD.sub [0, 1] (by decide) rfl) hS (by omega)
          · skip
            have hcn9 := fun z9 => hb7 ((lg_cmp_eq _ _).mpr ((hv.and (hTn i (by omega))).nz.mpr z9))
            refine lv_ldc2 hx hb hown (ht _ wd_4_124) d_Mo_takenBy_40 ?_
            have hP9 := hP.sub (ws' := [(m0, .inr (9, [.int mth, .int (nI mt), .ref m1, .ref m2, .int mf, .int (nI mcd), .ref m3, .ref m4, .ref m5, .ref m6, .int (nI mev), .ref m7, .ref m8, .ref m9, .ref m10, .ref m11, .ref m12, .ref m13, .int mwh, .int mps, .ref m14, .ref m15, .long mlr, .int (nI mlt), .int (nI mlm), .ref m16, .int mln, .ref m17])), (m9, .inl (cL, 30, .inr (.inl gtn)))]) [0, 1] rfl
            have hD9 := hD.sub (ws' := [(m0, .inr (9, [.int mth, .int (nI mt), .ref m1, .ref m2, .int mf, .int (nI mcd), .ref m3, .ref m4, .ref m5, .ref m6, .int (nI mev), .ref m7, .ref m8, .ref m9, .ref m10, .ref m11, .ref m12, .ref m13, .int mwh, .int mps, .ref m14, .ref m15, .long mlr, .int (nI mlt), .int (nI mlm), .ref m16, .int mln, .ref m17])), (m9, .inl (cL, 30, .inr (.inl gtn)))]) [0, 1] (by decide) rfl
            subst hQ
            exact W.lret (v := (-1)) hx hb hr (fun t9 ht9 hW => ⟨⟨(-1), (), rfl, (Or.inl ⟨rfl, tkb_c (by omega) hXi hcn9⟩), by rw [ht9]; exact hP9, hD9⟩, hS.F ht9⟩) hS.2.2 d_Mo_takenBy_43
        · skip
          have hXn := hXB.has.mp hb6
          refine lv_goto (tgt := 54) hx hb d_Mo_takenBy_23 (by decide) ?_
          refine lv_iinc (k := 3) (v := nI (i + 1)) (lv' := [(5, .int (nI (i + 1))), (0, .ref m0), (1, .long x), (3, .long v)]) hx hb d_Mo_takenBy_54 hl rfl (nI_1 _) (by decide) rfl (fun ls hln => ?_)
          replace hl : lv_has ls 6 [(5, .int (nI (i + 1))), (0, .ref m0), (1, .long x), (3, .long v)] := hln
          clear hln
          refine lv_goto (tgt := 5) hx hb d_Mo_takenBy_57 (by decide) ?_
          exact hloop1_ih v (i + 1) (by first | assumption | omega | trivial | exact AllLt.zero | exact AllN.zero | exact AllM.zero | exact Or.inl rfl | exact Or.inr rfl) (a64_skip hv (fun f q => hXn q.1)) (CfI.skip hcf hXn) _ _ ls (lv_sub hl [1, 2, 3, 0] rfl) (hP.sub [0, 1] rfl) (hD.sub [0, 1] (by decide) rfl) hS (by omega)
  exact hloop1 ((mev - 0) + 1) 0 0 (by first | assumption | omega | trivial | exact AllLt.zero | exact AllN.zero | exact AllM.zero | exact Or.inl rfl | exact Or.inr rfl) a64_0 CfI.zero _ _ ls (lv_sub hl [2, 3, 1, 0] rfl) hP hD hS (Nat.lt_succ_self _)

set_option maxHeartbeats 4000000 in
set_option maxRecDepth 100000 in
theorem e_Mo_together (l : Launch) (dC : Nat → ClassId) (dI : Nat → Nat → Nat) (cI cL cZ : ClassId) (sz : Nat) (m0 : Nat) (m1 : Nat) (m2 : Nat) (m3 : Nat) (m4 : Nat) (m5 : Nat) (m6 : Nat) (m7 : Nat) (m8 : Nat) (m9 : Nat) (m10 : Nat) (m11 : Nat) (m12 : Nat) (m13 : Nat) (m14 : Nat) (m15 : Nat) (m16 : Nat) (m17 : Nat) (mth : Int32) (mt : Nat) (mf : Int32) (mcd : Nat) (mev : Nat) (mwh : Int32) (mps : Int32) (mlr : Int64) (mlt : Nat) (mlm : Nat) (mln : Int32) (gbh : Nat → Int32) (gtn : Nat → Int64) (i : Nat) (j : Nat) (bh : Nat → Nat → Prop) (tk : Nat → Nat → Prop) (hev : mev ≤ 30) (hi : i < 60) (hj : j < 60) (hBi : B32 (gbh i) (bh i)) (hBj : B32 (gbh j) (bh j)) (hTn : ∀ a, a < mev → B64 (gtn a) (tk a)) (hbm : ∀ z f, bh z f → f < mev) (hty : ∀ f y, tk f y → y < 60) : Met l y_Mo_together (Cond.code y_Mo_together prog_11_method_11_code 5 (some .boolean) :: wsA) { frames := 2, cells := 0, slots := 0, locals := 47 } (va_Pc [.ref m0, .int (nI i), .int (nI j)] (fun U => U.heap.size = sz ∧ va_P (dC, dI) clA [(m0, .inr (9, [.int mth, .int (nI mt), .ref m1, .ref m2, .int mf, .int (nI mcd), .ref m3, .ref m4, .ref m5, .ref m6, .int (nI mev), .ref m7, .ref m8, .ref m9, .ref m10, .ref m11, .ref m12, .ref m13, .int mwh, .int mps, .ref m14, .ref m15, .long mlr, .int (nI mlt), .int (nI mlm), .ref m16, .int mln, .ref m17])), (m5, .inl (cI, 60, .inl gbh)), (m9, .inl (cL, 30, .inr (.inl gtn)))] U.heap ∧ va_K (dC, dI) clA [(cI, .int), (cL, .long), (cZ, .boolean)] U ∧ va_D (fun _ => True) [(m0, .inr (9, [.int mth, .int (nI mt), .ref m1, .ref m2, .int mf, .int (nI mcd), .ref m3, .ref m4, .ref m5, .ref m6, .int (nI mev), .ref m7, .ref m8, .ref m9, .ref m10, .ref m11, .ref m12, .ref m13, .int mwh, .int mps, .ref m14, .ref m15, .long mlr, .int (nI mlt), .int (nI mlm), .ref m16, .int mln, .ref m17])), (m5, .inl (cI, 60, .inl gbh)), (m9, .inl (cL, 30, .inr (.inl gtn)))] ∧ NwA U)) (va_Qi (fun r (_ : Unit) => ((r = 1 ∧ Tog bh tk i j) ∨ (r = 0 ∧ ¬ Tog bh tk i j))) (fun _ t => va_P (dC, dI) clA [(m0, .inr (9, [.int mth, .int (nI mt), .ref m1, .ref m2, .int mf, .int (nI mcd), .ref m3, .ref m4, .ref m5, .ref m6, .int (nI mev), .ref m7, .ref m8, .ref m9, .ref m10, .ref m11, .ref m12, .ref m13, .int mwh, .int mps, .ref m14, .ref m15, .long mlr, .int (nI mlt), .int (nI mlm), .ref m16, .int mln, .ref m17])), (m5, .inl (cI, 60, .inl gbh)), (m9, .inl (cL, 30, .inr (.inl gtn)))] t.heap ∧ va_D (va_A [(m0, .inr (9, [.int mth, .int (nI mt), .ref m1, .ref m2, .int mf, .int (nI mcd), .ref m3, .ref m4, .ref m5, .ref m6, .int (nI mev), .ref m7, .ref m8, .ref m9, .ref m10, .ref m11, .ref m12, .ref m13, .int mwh, .int mps, .ref m14, .ref m15, .long mlr, .int (nI mlt), .int (nI mlm), .ref m16, .int mln, .ref m17])), (m5, .inl (cI, 60, .inl gbh)), (m9, .inl (cL, 30, .inr (.inl gtn)))] sz) [(m0, .inr (9, [.int mth, .int (nI mt), .ref m1, .ref m2, .int mf, .int (nI mcd), .ref m3, .ref m4, .ref m5, .ref m6, .int (nI mev), .ref m7, .ref m8, .ref m9, .ref m10, .ref m11, .ref m12, .ref m13, .int mwh, .int mps, .ref m14, .ref m15, .long mlr, .int (nI mlt), .int (nI mlm), .ref m16, .int mln, .ref m17])), (m5, .inl (cI, 60, .inl gbh)), (m9, .inl (cL, 30, .inr (.inl gtn)))]) (va_A [(m0, .inr (9, [.int mth, .int (nI mt), .ref m1, .ref m2, .int mf, .int (nI mcd), .ref m3, .ref m4, .ref m5, .ref m6, .int (nI mev), .ref m7, .ref m8, .ref m9, .ref m10, .ref m11, .ref m12, .ref m13, .int mwh, .int mps, .ref m14, .ref m15, .long mlr, .int (nI mlt), .int (nI mlm), .ref m16, .int mln, .ref m17])), (m5, .inl (cI, 60, .inl gbh)), (m9, .inl (cL, 30, .inr (.inl gtn)))] sz)) 0 0 (va_A [(m0, .inr (9, [.int mth, .int (nI mt), .ref m1, .ref m2, .int mf, .int (nI mcd), .ref m3, .ref m4, .ref m5, .ref m6, .int (nI mev), .ref m7, .ref m8, .ref m9, .ref m10, .ref m11, .ref m12, .ref m13, .int mwh, .int mps, .ref m14, .ref m15, .long mlr, .int (nI mlt), .int (nI mlm), .ref m16, .int mln, .ref m17])), (m5, .inl (cI, 60, .inl gbh)), (m9, .inl (cL, 30, .inr (.inl gtn)))] sz) := by
  refine Met.ofW (cc := prog_11_method_11_code) (maxL := 5) (ret := (some .boolean)) (by decide) rfl ?_
  intro p e s m args below meth c s₁ B hml hv
  obtain ⟨rfl, hsz, hP, hK, hD0, hN⟩ := hv
  have hx := B.exec
  have hb := B.bytes
  have hr := B.returns
  have ht : ∀ w ∈ wsA, w.before _ s = true := fun w h => atoms_spec (ws := (Cond.code y_Mo_together prog_11_method_11_code 5 (some .boolean) :: wsA)) B.pre w (List.mem_cons_of_mem _ h)
  have hown : s.vm.findClass "NetUnfolderModel" = some m.cls := findClass_of_methodNamed B.named
  have hlocks := B.notSynchronized
  subst hsz
  have hD := hD0.self (sz := s.heap.size)
  generalize hAe : va_A [(m0, .inr (9, [.int mth, .int (nI mt), .ref m1, .ref m2, .int mf, .int (nI mcd), .ref m3, .ref m4, .ref m5, .ref m6, .int (nI mev), .ref m7, .ref m8, .ref m9, .ref m10, .ref m11, .ref m12, .ref m13, .int mwh, .int mps, .ref m14, .ref m15, .long mlr, .int (nI mlt), .int (nI mlm), .ref m16, .int mln, .ref m17])), (m5, .inl (cI, 60, .inl gbh)), (m9, .inl (cL, 30, .inr (.inl gtn)))] s.heap.size = A at hD ⊢
  have hA : ∀ q : Nat, s.heap.size ≤ q → A q := fun q h => by rw [← hAe]; exact Or.inr h
  have hS : va_S A s.heap s.heap [] := va_S.rf
  have hl := lv_entry ([.ref m0, .int (nI i), .int (nI j)]) (n := 5) (Nat.le_of_ble_eq_true rfl)
  rw [lg_entry_eq]
  generalize (lg_sl ([.ref m0, .int (nI i), .int (nI j)]) ++ List.replicate (5 - (lg_sl ([.ref m0, .int (nI i), .int (nI j)])).length) Slot.unset).toArray = ls at hl ⊢
  replace hl : lv_has ls 5 [(0, .ref m0), (1, .int (nI i)), (2, .int (nI j))] := hl
  refine W_Q (fun Q hQ => ?_)
  refine lv_aload_n hx hb d_Mo_together_0 rfl (lv_at hl 0 rfl) ?_
  refine lv_aload_n hx hb d_Mo_together_1 rfl (lv_at hl 0 rfl) ?_
  refine va_get (D := (dC, dI)) (ci := 9) (v := .ref m5) (C := "NetUnfolderModel") (T := T_Mo) (N := 28) hx hb ht in_Mo hown hK hP 0 rfl rfl 8 (by decide) (ht _ wd_4_8) (fun _ h9 => h9) rfl d_Mo_together_2 ?_
  refine lv_iload_n hx hb d_Mo_together_5 rfl (lv_at hl 1 rfl) ?_
  refine na_iald (k := i) hx hb hK hP 1 0 rfl rfl (by omega) (by decide) d_Mo_together_6 ?_
  refine lv_aload_n hx hb d_Mo_together_7 rfl (lv_at hl 0 rfl) ?_
  refine va_get (D := (dC, dI)) (ci := 9) (v := .ref m5) (C := "NetUnfolderModel") (T := T_Mo) (N := 28) hx hb ht in_Mo hown hK hP 0 rfl rfl 8 (by decide) (ht _ wd_4_8) (fun _ h9 => h9) rfl d_Mo_together_8 ?_
  refine lv_iload_n hx hb d_Mo_together_11 rfl (lv_at hl 2 rfl) ?_
  refine na_iald (k := j) hx hb hK hP 1 0 rfl rfl (by omega) (by decide) d_Mo_together_12 ?_
  refine lv_ior hx hb d_Mo_together_13 ?_
  refine lv_i2l (v := Int32.toInt64 ((gbh i) ||| (gbh j))) hx hb d_Mo_together_14 rfl ?_
  have hPc := hP.sub (ws' := [(m0, .inr (9, [.int mth, .int (nI mt), .ref m1, .ref m2, .int mf, .int (nI mcd), .ref m3, .ref m4, .ref m5, .ref m6, .int (nI mev), .ref m7, .ref m8, .ref m9, .ref m10, .ref m11, .ref m12, .ref m13, .int mwh, .int mps, .ref m14, .ref m15, .long mlr, .int (nI mlt), .int (nI mlm), .ref m16, .int mln, .ref m17])), (m9, .inl (cL, 30, .inr (.inl gtn)))]) [0, 2] rfl
  have hDc := hD.sub (ws' := [(m0, .inr (9, [.int mth, .int (nI mt), .ref m1, .ref m2, .int mf, .int (nI mcd), .ref m3, .ref m4, .ref m5, .ref m6, .int (nI mev), .ref m7, .ref m8, .ref m9, .ref m10, .ref m11, .ref m12, .ref m13, .int mwh, .int mps, .ref m14, .ref m15, .long mlr, .int (nI mlt), .int (nI mlm), .ref m16, .int mln, .ref m17])), (m9, .inl (cL, 30, .inr (.inl gtn)))]) [0, 2] (by decide) rfl
  have hFc := va_free (wc := [(m0, .inr (9, [.int mth, .int (nI mt), .ref m1, .ref m2, .int mf, .int (nI mcd), .ref m3, .ref m4, .ref m5, .ref m6, .int (nI mev), .ref m7, .ref m8, .ref m9, .ref m10, .ref m11, .ref m12, .ref m13, .int mwh, .int mps, .ref m14, .ref m15, .long mlr, .int (nI mlt), .int (nI mlm), .ref m16, .int mln, .ref m17])), (m9, .inl (cL, 30, .inr (.inl gtn)))]) hD hS hA [0, 2] rfl
  refine va_calll (va_runV (C := "NetUnfolderModel") (As := [.long (Int32.toInt64 ((gbh i) ||| (gbh j)))]) (rest := []) ⟨hx, hb, hml, hown, ht⟩ (e_Mo_takenBy l dC dI cI cL cZ _ m0 m1 m2 m3 m4 m5 m6 m7 m8 m9 m10 m11 m12 m13 m14 m15 m16 m17 mth mt mf mcd mev mwh mps mlr mlt mlm mln gtn (Int32.toInt64 ((gbh i) ||| (gbh j))) (fun f => bh i f ∨ bh j f) tk (by first | assumption | omega | trivial | exact AllLt.zero | exact AllN.zero | exact AllM.zero | exact Or.inl rfl | exact Or.inr rfl) ((hBi.or hBj).long (fun f q => by have := q.elim (hbm i f) (hbm j f); omega)) (by first | assumption | omega | trivial | exact AllLt.zero | exact AllN.zero | exact AllM.zero | exact Or.inl rfl | exact Or.inr rfl)) (cwV 1 ht (good_V wd_4_117 wd_4_119 ws_Mo_takenBy wd_1_10 wd_4_120) rfl rfl rfl (by decide +kernel) ⟨Nat.le_of_ble_eq_true rfl, Nat.le_of_ble_eq_true rfl⟩) ⟨fun a U g mk q => by obtain ⟨q0, q1, qP, qK, qD, qN⟩ := q; exact ⟨q0, q1, qP, va_K.moved (u := U) (U := U.calling g mk a) (Vm.Alike.refl U.vm) qK, qD, NwA.same (u := U) rfl qN⟩, (va_recv (q0 := 0) (ci := 9) hK hP rfl rfl), fun U hU hW => ⟨rfl, by rw [hU], by rw [hU]; exact hPc, va_K.moved hW.alike hK, hDc.weaken (fun _ _ _ _ => trivial), NwA.warm hW hN⟩⟩ rfl rfl hl.1 rfl (lv_room (Nat.le_of_ble_eq_true rfl)) d_Mo_together_15 ⟨Nat.le_of_ble_eq_true rfl, Nat.le_of_ble_eq_true rfl⟩) hS (fun q _ h => hFc q h) hFc (fun r3 u9 t9 H1 locs ht9 hvm hw2 hB hz1 hk1 hSn => ?_)
  obtain ⟨hP1, hD1⟩ := hB
  rw [ht9] at hP1
  obtain ⟨hPn, hDn⟩ := va_join (wr := [(m5, .inl (cI, 60, .inl gbh))]) (w1 := [(m0, .inr (9, [.int mth, .int (nI mt), .ref m1, .ref m2, .int mf, .int (nI mcd), .ref m3, .ref m4, .ref m5, .ref m6, .int (nI mev), .ref m7, .ref m8, .ref m9, .ref m10, .ref m11, .ref m12, .ref m13, .int mwh, .int mps, .ref m14, .ref m15, .long mlr, .int (nI mlt), .int (nI mlm), .ref m16, .int mln, .ref m17])), (m9, .inl (cL, 30, .inr (.inl gtn)))]) hP hD [0, 2] [1] rfl rfl (by decide) (by decide) hk1 hFc hP1 hD1
  replace hP : va_P (dC, dI) clA [(m5, .inl (cI, 60, .inl gbh)), (m0, .inr (9, [.int mth, .int (nI mt), .ref m1, .ref m2, .int mf, .int (nI mcd), .ref m3, .ref m4, .ref m5, .ref m6, .int (nI mev), .ref m7, .ref m8, .ref m9, .ref m10, .ref m11, .ref m12, .ref m13, .int mwh, .int mps, .ref m14, .ref m15, .long mlr, .int (nI mlt), .int (nI mlm), .ref m16, .int mln, .ref m17])), (m9, .inl (cL, 30, .inr (.inl gtn)))] H1 := hPn
  replace hD : va_D A [(m5, .inl (cI, 60, .inl gbh)), (m0, .inr (9, [.int mth, .int (nI mt), .ref m1, .ref m2, .int mf, .int (nI mcd), .ref m3, .ref m4, .ref m5, .ref m6, .int (nI mev), .ref m7, .ref m8, .ref m9, .ref m10, .ref m11, .ref m12, .ref m13, .int mwh, .int mps, .ref m14, .ref m15, .long mlr, .int (nI mlt), .int (nI mlm), .ref m16, .int mln, .ref m17])), (m9, .inl (cL, 30, .inr (.inl gtn)))] := hDn
  replace hS := hSn
  clear hPn hDn hSn
  clear hPc hDc hFc hP1 hD1 hk1 hz1 ht9 hvm
  refine W.cs (cells' := 0) (slots' := 0) rfl rfl ?_
  have hr4 := hw2
  have htb := hr4
  refine lv_lstore_n (lv' := [(3, .long r3), (0, .ref m0), (1, .int (nI i)), (2, .int (nI j))]) hx hb d_Mo_together_18 rfl hl (by decide) rfl (fun ls hln => ?_)
  replace hl : lv_has ls 5 [(3, .long r3), (0, .ref m0), (1, .int (nI i)), (2, .int (nI j))] := hln
  clear hln
  refine lv_lload_n hx hb d_Mo_together_19 rfl (lv_at hl 0 rfl) ?_
  refine lv_lconst (v := 0) hx hb d_Mo_together_20 (by decide) ?_
  refine W.lcmp hx hb d_Mo_together_21 ?_
  refine lv_if_lt (tgt := 45) hx hb d_Mo_together_22 (by decide) (fun hb5 => ?_) (fun hb5 => ?_)
  · skip
    have hng : ¬ Tog bh tk i j := fun q => ((htb.neg hty).mp ((lg_cmp_lt _ _).mp hb5)) ((tog_B hbm).mp q).1
    refine lv_iconst (v := 0) hx hb d_Mo_together_45 (by decide) ?_
    have hP9 := hP.sub (ws' := [(m0, .inr (9, [.int mth, .int (nI mt), .ref m1, .ref m2, .int mf, .int (nI mcd), .ref m3, .ref m4, .ref m5, .ref m6, .int (nI mev), .ref m7, .ref m8, .ref m9, .ref m10, .ref m11, .ref m12, .ref m13, .int mwh, .int mps, .ref m14, .ref m15, .long mlr, .int (nI mlt), .int (nI mlm), .ref m16, .int mln, .ref m17])), (m5, .inl (cI, 60, .inl gbh)), (m9, .inl (cL, 30, .inr (.inl gtn)))]) [1, 0, 2] rfl
    have hD9 := hD.sub (ws' := [(m0, .inr (9, [.int mth, .int (nI mt), .ref m1, .ref m2, .int mf, .int (nI mcd), .ref m3, .ref m4, .ref m5, .ref m6, .int (nI mev), .ref m7, .ref m8, .ref m9, .ref m10, .ref m11, .ref m12, .ref m13, .int mwh, .int mps, .ref m14, .ref m15, .long mlr, .int (nI mlt), .int (nI mlm), .ref m16, .int mln, .ref m17])), (m5, .inl (cI, 60, .inl gbh)), (m9, .inl (cL, 30, .inr (.inl gtn)))]) [1, 0, 2] (by decide) rfl
    subst hQ
    exact W.zret (v := 0) hx hb hr rfl (fun t9 ht9 hW => ⟨⟨0, (), rfl, (Or.inr ⟨rfl, hng⟩), by rw [ht9]; exact hP9, hD9⟩, hS.F ht9⟩) hS.2.2 d_Mo_together_46
  · skip
    have hcf9 := Classical.byContradiction (fun z9 => hb5 ((lg_cmp_lt _ _).mpr ((htb.neg hty).mpr z9)))
    have hbb := (htb.resolve_left (fun q => q.2 hcf9)).2
    refine lv_lload_n hx hb d_Mo_together_25 rfl (lv_at hl 0 rfl) ?_
    refine lv_iload_n hx hb d_Mo_together_26 rfl (lv_at hl 2 rfl) ?_
    have hPc : va_P (dC, dI) clA [] _ := pu_P (H := H1)
    have hDc : va_D (fun _ => True) [] := pu_D
    have hFc := pu_free hS hA
    refine va_calli (va_runS (As := [.long r3, .int (nI i)]) (rest := []) ⟨hx, hb, hml, hown, ht⟩ (c_Mo_has l dC dI cI cL cZ _ r3 i (by first | assumption | omega | trivial | exact AllLt.zero | exact AllN.zero | exact AllM.zero | exact Or.inl rfl | exact Or.inr rfl)) (va_cwS 2 ht (good_S wd_4_121 wd_4_122 wd_1_10 wd_4_123) rfl rfl rfl (by decide +kernel) ⟨Nat.le_of_ble_eq_true rfl, Nat.le_of_ble_eq_true rfl⟩) ⟨fun a U g mk q => by obtain ⟨q0, q1, qP, qK, qD, qN⟩ := q; exact ⟨q0, q1, qP, va_K.moved (u := U) (U := U.calling g mk a) (Vm.Alike.refl U.vm) qK, qD, NwA.same (u := U) rfl qN⟩, fun U hU hW => ⟨rfl, by rw [hU], by rw [hU]; exact hPc, va_K.moved hW.alike hK, hDc.weaken (fun _ _ _ _ => trivial), NwA.warm hW hN⟩⟩ rfl rfl hl.1 rfl (lv_room (Nat.le_of_ble_eq_true rfl)) d_Mo_together_27 ⟨Nat.le_of_ble_eq_true rfl, Nat.le_of_ble_eq_true rfl⟩) hS (fun q _ h => hFc q h) hFc (fun r8 u9 t9 H6 locs ht9 hvm hw7 hB hz1 hk1 hSn => ?_)
    replace hP : va_P (dC, dI) clA [(m5, .inl (cI, 60, .inl gbh)), (m0, .inr (9, [.int mth, .int (nI mt), .ref m1, .ref m2, .int mf, .int (nI mcd), .ref m3, .ref m4, .ref m5, .ref m6, .int (nI mev), .ref m7, .ref m8, .ref m9, .ref m10, .ref m11, .ref m12, .ref m13, .int mwh, .int mps, .ref m14, .ref m15, .long mlr, .int (nI mlt), .int (nI mlm), .ref m16, .int mln, .ref m17])), (m9, .inl (cL, 30, .inr (.inl gtn)))] H6 := pu_keep hP hk1
    replace hS := hSn
    clear hSn hPc hDc hFc hk1 hz1 ht9 hvm hB
    refine W.cs (cells' := 0) (slots' := 0) rfl rfl ?_
    subst hw7
    refine lv_if_ne (tgt := 45) hx hb d_Mo_together_30 (by decide) (fun hb9 => ?_) (fun hb9 => ?_)
    · skip
      have hng : ¬ Tog bh tk i j := fun q => ((tog_B hbm).mp q).2.1 (Classical.byContradiction (fun z9 => hb9 (hbb.has.mpr z9)))
      refine lv_iconst (v := 0) hx hb d_Mo_together_45 (by decide) ?_
      have hP9 := hP.sub (ws' := [(m0, .inr (9, [.int mth, .int (nI mt), .ref m1, .ref m2, .int mf, .int (nI mcd), .ref m3, .ref m4, .ref m5, .ref m6, .int (nI mev), .ref m7, .ref m8, .ref m9, .ref m10, .ref m11, .ref m12, .ref m13, .int mwh, .int mps, .ref m14, .ref m15, .long mlr, .int (nI mlt), .int (nI mlm), .ref m16, .int mln, .ref m17])), (m5, .inl (cI, 60, .inl gbh)), (m9, .inl (cL, 30, .inr (.inl gtn)))]) [1, 0, 2] rfl
      have hD9 := hD.sub (ws' := [(m0, .inr (9, [.int mth, .int (nI mt), .ref m1, .ref m2, .int mf, .int (nI mcd), .ref m3, .ref m4, .ref m5, .ref m6, .int (nI mev), .ref m7, .ref m8, .ref m9, .ref m10, .ref m11, .ref m12, .ref m13, .int mwh, .int mps, .ref m14, .ref m15, .long mlr, .int (nI mlt), .int (nI mlm), .ref m16, .int mln, .ref m17])), (m5, .inl (cI, 60, .inl gbh)), (m9, .inl (cL, 30, .inr (.inl gtn)))]) [1, 0, 2] (by decide) rfl
      subst hQ
      exact W.zret (v := 0) hx hb hr rfl (fun t9 ht9 hW => ⟨⟨0, (), rfl, (Or.inr ⟨rfl, hng⟩), by rw [ht9]; exact hP9, hD9⟩, hS.F ht9⟩) hS.2.2 d_Mo_together_46
    · skip
      have hx1 := hbb.has.mp hb9
      refine lv_lload_n hx hb d_Mo_together_33 rfl (lv_at hl 0 rfl) ?_
      refine lv_iload_n hx hb d_Mo_together_34 rfl (lv_at hl 3 rfl) ?_
      have hPc : va_P (dC, dI) clA [] _ := pu_P (H := H6)
      have hDc : va_D (fun _ => True) [] := pu_D
      have hFc := pu_free hS hA
      refine va_calli (va_runS (As := [.long r3, .int (nI j)]) (rest := []) ⟨hx, hb, hml, hown, ht⟩ (c_Mo_has l dC dI cI cL cZ _ r3 j (by first | assumption | omega | trivial | exact AllLt.zero | exact AllN.zero | exact AllM.zero | exact Or.inl rfl | exact Or.inr rfl)) (va_cwS 2 ht (good_S wd_4_121 wd_4_122 wd_1_10 wd_4_123) rfl rfl rfl (by decide +kernel) ⟨Nat.le_of_ble_eq_true rfl, Nat.le_of_ble_eq_true rfl⟩) ⟨fun a U g mk q => by obtain ⟨q0, q1, qP, qK, qD, qN⟩ := q; exact ⟨q0, q1, qP, va_K.moved (u := U) (U := U.calling g mk a) (Vm.Alike.refl U.vm) qK, qD, NwA.same (u := U) rfl qN⟩, fun U hU hW => ⟨rfl, by rw [hU], by rw [hU]; exact hPc, va_K.moved hW.alike hK, hDc.weaken (fun _ _ _ _ => trivial), NwA.warm hW hN⟩⟩ rfl rfl hl.1 rfl (lv_room (Nat.le_of_ble_eq_true rfl)) d_Mo_together_35 ⟨Nat.le_of_ble_eq_true rfl, Nat.le_of_ble_eq_true rfl⟩) hS (fun q _ h => hFc q h) hFc (fun r12 u9 t9 H10 locs ht9 hvm hw11 hB hz1 hk1 hSn => ?_)
      replace hP : va_P (dC, dI) clA [(m5, .inl (cI, 60, .inl gbh)), (m0, .inr (9, [.int mth, .int (nI mt), .ref m1, .ref m2, .int mf, .int (nI mcd), .ref m3, .ref m4, .ref m5, .ref m6, .int (nI mev), .ref m7, .ref m8, .ref m9, .ref m10, .ref m11, .ref m12, .ref m13, .int mwh, .int mps, .ref m14, .ref m15, .long mlr, .int (nI mlt), .int (nI mlm), .ref m16, .int mln, .ref m17])), (m9, .inl (cL, 30, .inr (.inl gtn)))] H10 := pu_keep hP hk1
      replace hS := hSn
      clear hSn hPc hDc hFc hk1 hz1 ht9 hvm hB
      refine W.cs (cells' := 0) (slots' := 0) rfl rfl ?_
      subst hw11
      refine lv_if_ne (tgt := 45) hx hb d_Mo_together_38 (by decide) (fun hb13 => ?_) (fun hb13 => ?_)
      · skip
        have hng : ¬ Tog bh tk i j := fun q => ((tog_B hbm).mp q).2.2 (Classical.byContradiction (fun z9 => hb13 (hbb.has.mpr z9)))
        refine lv_iconst (v := 0) hx hb d_Mo_together_45 (by decide) ?_
        have hP9 := hP.sub (ws' := [(m0, .inr (9, [.int mth, .int (nI mt), .ref m1, .ref m2, .int mf, .int (nI mcd), .ref m3, .ref m4, .ref m5, .ref m6, .int (nI mev), .ref m7, .ref m8, .ref m9, .ref m10, .ref m11, .ref m12, .ref m13, .int mwh, .int mps, .ref m14, .ref m15, .long mlr, .int (nI mlt), .int (nI mlm), .ref m16, .int mln, .ref m17])), (m5, .inl (cI, 60, .inl gbh)), (m9, .inl (cL, 30, .inr (.inl gtn)))]) [1, 0, 2] rfl
        have hD9 := hD.sub (ws' := [(m0, .inr (9, [.int mth, .int (nI mt), .ref m1, .ref m2, .int mf, .int (nI mcd), .ref m3, .ref m4, .ref m5, .ref m6, .int (nI mev), .ref m7, .ref m8, .ref m9, .ref m10, .ref m11, .ref m12, .ref m13, .int mwh, .int mps, .ref m14, .ref m15, .long mlr, .int (nI mlt), .int (nI mlm), .ref m16, .int mln, .ref m17])), (m5, .inl (cI, 60, .inl gbh)), (m9, .inl (cL, 30, .inr (.inl gtn)))]) [1, 0, 2] (by decide) rfl
        subst hQ
        exact W.zret (v := 0) hx hb hr rfl (fun t9 ht9 hW => ⟨⟨0, (), rfl, (Or.inr ⟨rfl, hng⟩), by rw [ht9]; exact hP9, hD9⟩, hS.F ht9⟩) hS.2.2 d_Mo_together_46
      · skip
        have hyg : Tog bh tk i j := (tog_B hbm).mpr ⟨hcf9, hx1, hbb.has.mp hb13⟩
        refine lv_iconst (v := 1) hx hb d_Mo_together_41 (by decide) ?_
        refine lv_goto (tgt := 46) hx hb d_Mo_together_42 (by decide) ?_
        have hP9 := hP.sub (ws' := [(m0, .inr (9, [.int mth, .int (nI mt), .ref m1, .ref m2, .int mf, .int (nI mcd), .ref m3, .ref m4, .ref m5, .ref m6, .int (nI mev), .ref m7, .ref m8, .ref m9, .ref m10, .ref m11, .ref m12, .ref m13, .int mwh, .int mps, .ref m14, .ref m15, .long mlr, .int (nI mlt), .int (nI mlm), .ref m16, .int mln, .ref m17])), (m5, .inl (cI, 60, .inl gbh)), (m9, .inl (cL, 30, .inr (.inl gtn)))]) [1, 0, 2] rfl
        have hD9 := hD.sub (ws' := [(m0, .inr (9, [.int mth, .int (nI mt), .ref m1, .ref m2, .int mf, .int (nI mcd), .ref m3, .ref m4, .ref m5, .ref m6, .int (nI mev), .ref m7, .ref m8, .ref m9, .ref m10, .ref m11, .ref m12, .ref m13, .int mwh, .int mps, .ref m14, .ref m15, .long mlr, .int (nI mlt), .int (nI mlm), .ref m16, .int mln, .ref m17])), (m5, .inl (cI, 60, .inl gbh)), (m9, .inl (cL, 30, .inr (.inl gtn)))]) [1, 0, 2] (by decide) rfl
        subst hQ
        exact W.zret (v := 1) hx hb hr rfl (fun t9 ht9 hW => ⟨⟨1, (), rfl, (Or.inl ⟨rfl, hyg⟩), by rw [ht9]; exact hP9, hD9⟩, hS.F ht9⟩) hS.2.2 d_Mo_together_46

set_option maxHeartbeats 4000000 in
set_option maxRecDepth 100000 in
theorem e_Mo_addCond (l : Launch) (dC : Nat → ClassId) (dI : Nat → Nat → Nat) (cI cL cZ : ClassId) (sz : Nat) (m0 : Nat) (m1 : Nat) (m2 : Nat) (m3 : Nat) (m4 : Nat) (m5 : Nat) (m6 : Nat) (m7 : Nat) (m8 : Nat) (m9 : Nat) (m10 : Nat) (m11 : Nat) (m12 : Nat) (m13 : Nat) (m14 : Nat) (m15 : Nat) (m16 : Nat) (m17 : Nat) (mth : Int32) (mt : Nat) (mf : Int32) (mcd : Nat) (mev : Nat) (mwh : Int32) (mps : Int32) (mlr : Int64) (mlt : Nat) (mlm : Nat) (mln : Int32) (gpl : Nat → Int32) (gmk : Nat → Int32) (gbh : Nat → Int32) (gbs : Nat → Int64) (gtn : Nat → Int64) (x : Nat) (y : Int32) (z : Int32) (bh : Nat → Nat → Prop) (tk : Nat → Nat → Prop) (hcd : mcd < 60) (hev : mev ≤ 30) (hBh : ∀ c, c < mcd → B32 (gbh c) (bh c)) (hBn : B32 z (bh mcd)) (hTn : ∀ a, a < mev → B64 (gtn a) (tk a)) (hbm : ∀ z f, bh z f → f < mev) (hty : ∀ f y, tk f y → y < 60) (hBs : ∀ c, c < mcd → B64 (gbs c) (fun d => d < mcd ∧ (c ≠ d ∧ Tog bh tk c d))) : Met l y_Mo_condition_III (Cond.code y_Mo_condition_III prog_11_method_14_code 6 none :: wsA) { frames := 3, cells := 0, slots := 0, locals := 71 } (va_Pc [.ref m0, .int (nI x), .int y, .int z] (fun U => U.heap.size = sz ∧ va_P (dC, dI) clA [(m0, .inr (9, [.int mth, .int (nI mt), .ref m1, .ref m2, .int mf, .int (nI mcd), .ref m3, .ref m4, .ref m5, .ref m6, .int (nI mev), .ref m7, .ref m8, .ref m9, .ref m10, .ref m11, .ref m12, .ref m13, .int mwh, .int mps, .ref m14, .ref m15, .long mlr, .int (nI mlt), .int (nI mlm), .ref m16, .int mln, .ref m17])), (m3, .inl (cI, 60, .inl gpl)), (m4, .inl (cI, 60, .inl gmk)), (m5, .inl (cI, 60, .inl gbh)), (m6, .inl (cL, 60, .inr (.inl gbs))), (m9, .inl (cL, 30, .inr (.inl gtn)))] U.heap ∧ va_K (dC, dI) clA [(cI, .int), (cL, .long), (cZ, .boolean)] U ∧ va_D (fun _ => True) [(m0, .inr (9, [.int mth, .int (nI mt), .ref m1, .ref m2, .int mf, .int (nI mcd), .ref m3, .ref m4, .ref m5, .ref m6, .int (nI mev), .ref m7, .ref m8, .ref m9, .ref m10, .ref m11, .ref m12, .ref m13, .int mwh, .int mps, .ref m14, .ref m15, .long mlr, .int (nI mlt), .int (nI mlm), .ref m16, .int mln, .ref m17])), (m3, .inl (cI, 60, .inl gpl)), (m4, .inl (cI, 60, .inl gmk)), (m5, .inl (cI, 60, .inl gbh)), (m6, .inl (cL, 60, .inr (.inl gbs))), (m9, .inl (cL, 30, .inr (.inl gtn)))] ∧ NwA U)) (va_Qv (fun _ : Unit => True) (fun _ t => ∃ (gbs1 : Nat → Int64), (∀ c, c < mcd + 1 → B64 (gbs1 c) (fun d => d < mcd + 1 ∧ (c ≠ d ∧ Tog bh tk c d))) ∧ va_P (dC, dI) clA [(m0, .inr (9, [.int mth, .int (nI mt), .ref m1, .ref m2, .int mf, .int (nI (mcd + 1)), .ref m3, .ref m4, .ref m5, .ref m6, .int (nI mev), .ref m7, .ref m8, .ref m9, .ref m10, .ref m11, .ref m12, .ref m13, .int mwh, .int mps, .ref m14, .ref m15, .long mlr, .int (nI mlt), .int (nI mlm), .ref m16, .int mln, .ref m17])), (m3, .inl (cI, 60, .inl (upd gpl mcd (nI x)))), (m4, .inl (cI, 60, .inl (upd gmk mcd y))), (m5, .inl (cI, 60, .inl (upd gbh mcd z))), (m6, .inl (cL, 60, .inr (.inl gbs1))), (m9, .inl (cL, 30, .inr (.inl gtn)))] t.heap ∧ va_D (va_A [(m0, .inr (9, [.int mth, .int (nI mt), .ref m1, .ref m2, .int mf, .int (nI mcd), .ref m3, .ref m4, .ref m5, .ref m6, .int (nI mev), .ref m7, .ref m8, .ref m9, .ref m10, .ref m11, .ref m12, .ref m13, .int mwh, .int mps, .ref m14, .ref m15, .long mlr, .int (nI mlt), .int (nI mlm), .ref m16, .int mln, .ref m17])), (m3, .inl (cI, 60, .inl gpl)), (m4, .inl (cI, 60, .inl gmk)), (m5, .inl (cI, 60, .inl gbh)), (m6, .inl (cL, 60, .inr (.inl gbs))), (m9, .inl (cL, 30, .inr (.inl gtn)))] sz) [(m0, .inr (9, [.int mth, .int (nI mt), .ref m1, .ref m2, .int mf, .int (nI (mcd + 1)), .ref m3, .ref m4, .ref m5, .ref m6, .int (nI mev), .ref m7, .ref m8, .ref m9, .ref m10, .ref m11, .ref m12, .ref m13, .int mwh, .int mps, .ref m14, .ref m15, .long mlr, .int (nI mlt), .int (nI mlm), .ref m16, .int mln, .ref m17])), (m3, .inl (cI, 60, .inl (upd gpl mcd (nI x)))), (m4, .inl (cI, 60, .inl (upd gmk mcd y))), (m5, .inl (cI, 60, .inl (upd gbh mcd z))), (m6, .inl (cL, 60, .inr (.inl gbs1))), (m9, .inl (cL, 30, .inr (.inl gtn)))]) (va_A [(m0, .inr (9, [.int mth, .int (nI mt), .ref m1, .ref m2, .int mf, .int (nI mcd), .ref m3, .ref m4, .ref m5, .ref m6, .int (nI mev), .ref m7, .ref m8, .ref m9, .ref m10, .ref m11, .ref m12, .ref m13, .int mwh, .int mps, .ref m14, .ref m15, .long mlr, .int (nI mlt), .int (nI mlm), .ref m16, .int mln, .ref m17])), (m3, .inl (cI, 60, .inl gpl)), (m4, .inl (cI, 60, .inl gmk)), (m5, .inl (cI, 60, .inl gbh)), (m6, .inl (cL, 60, .inr (.inl gbs))), (m9, .inl (cL, 30, .inr (.inl gtn)))] sz)) 0 0 (va_A [(m0, .inr (9, [.int mth, .int (nI mt), .ref m1, .ref m2, .int mf, .int (nI mcd), .ref m3, .ref m4, .ref m5, .ref m6, .int (nI mev), .ref m7, .ref m8, .ref m9, .ref m10, .ref m11, .ref m12, .ref m13, .int mwh, .int mps, .ref m14, .ref m15, .long mlr, .int (nI mlt), .int (nI mlm), .ref m16, .int mln, .ref m17])), (m3, .inl (cI, 60, .inl gpl)), (m4, .inl (cI, 60, .inl gmk)), (m5, .inl (cI, 60, .inl gbh)), (m6, .inl (cL, 60, .inr (.inl gbs))), (m9, .inl (cL, 30, .inr (.inl gtn)))] sz) := by
  refine Met.ofW (cc := prog_11_method_14_code) (maxL := 6) (ret := none) (by decide) rfl ?_
  intro p e s m args below meth c s₁ B hml hv
  obtain ⟨rfl, hsz, hP, hK, hD0, hN⟩ := hv
  have hx := B.exec
  have hb := B.bytes
  have hr := B.returns
  have ht : ∀ w ∈ wsA, w.before _ s = true := fun w h => atoms_spec (ws := (Cond.code y_Mo_condition_III prog_11_method_14_code 6 none :: wsA)) B.pre w (List.mem_cons_of_mem _ h)
  have hown : s.vm.findClass "NetUnfolderModel" = some m.cls := findClass_of_methodNamed B.named
  have hlocks := B.notSynchronized
  subst hsz
  have hD := hD0.self (sz := s.heap.size)
  generalize hAe : va_A [(m0, .inr (9, [.int mth, .int (nI mt), .ref m1, .ref m2, .int mf, .int (nI mcd), .ref m3, .ref m4, .ref m5, .ref m6, .int (nI mev), .ref m7, .ref m8, .ref m9, .ref m10, .ref m11, .ref m12, .ref m13, .int mwh, .int mps, .ref m14, .ref m15, .long mlr, .int (nI mlt), .int (nI mlm), .ref m16, .int mln, .ref m17])), (m3, .inl (cI, 60, .inl gpl)), (m4, .inl (cI, 60, .inl gmk)), (m5, .inl (cI, 60, .inl gbh)), (m6, .inl (cL, 60, .inr (.inl gbs))), (m9, .inl (cL, 30, .inr (.inl gtn)))] s.heap.size = A at hD ⊢
  have hA : ∀ q : Nat, s.heap.size ≤ q → A q := fun q h => by rw [← hAe]; exact Or.inr h
  have hS : va_S A s.heap s.heap [] := va_S.rf
  have hl := lv_entry ([.ref m0, .int (nI x), .int y, .int z]) (n := 6) (Nat.le_of_ble_eq_true rfl)
  rw [lg_entry_eq]
  generalize (lg_sl ([.ref m0, .int (nI x), .int y, .int z]) ++ List.replicate (6 - (lg_sl ([.ref m0, .int (nI x), .int y, .int z])).length) Slot.unset).toArray = ls at hl ⊢
  replace hl : lv_has ls 6 [(0, .ref m0), (1, .int (nI x)), (2, .int y), (3, .int z)] := hl
  refine W_Q (fun Q hQ => ?_)
  refine lv_aload_n hx hb d_Mo_condition_III_0 rfl (lv_at hl 0 rfl) ?_
  refine va_get (D := (dC, dI)) (ci := 9) (v := .int (nI mcd)) (C := "NetUnfolderModel") (T := T_Mo) (N := 28) hx hb ht in_Mo hown hK hP 0 rfl rfl 5 (by decide) (ht _ wd_4_5) (fun _ h9 => h9) rfl d_Mo_condition_III_1 ?_
  refine lv_istore (lv' := [(4, .int (nI mcd)), (0, .ref m0), (1, .int (nI x)), (2, .int y), (3, .int z)]) hx hb d_Mo_condition_III_4 hl (by decide) rfl (fun ls hln => ?_)
  replace hl : lv_has ls 6 [(4, .int (nI mcd)), (0, .ref m0), (1, .int (nI x)), (2, .int y), (3, .int z)] := hln
  clear hln
  refine lv_aload_n hx hb d_Mo_condition_III_6 rfl (lv_at hl 1 rfl) ?_
  refine va_get (D := (dC, dI)) (ci := 9) (v := .ref m3) (C := "NetUnfolderModel") (T := T_Mo) (N := 28) hx hb ht in_Mo hown hK hP 0 rfl rfl 6 (by decide) (ht _ wd_4_6) (fun _ h9 => h9) rfl d_Mo_condition_III_7 ?_
  refine lv_iload hx hb d_Mo_condition_III_10 (lv_at hl 0 rfl) ?_
  refine lv_iload_n hx hb d_Mo_condition_III_12 rfl (lv_at hl 2 rfl) ?_
  refine na_iast (k := mcd) hx hb hK hP hD hS 1 0 rfl rfl (by omega) (by decide) d_Mo_condition_III_13 (fun H1 locs hPn hDn hSn => ?_)
  replace hP : va_P (dC, dI) clA [(m0, .inr (9, [.int mth, .int (nI mt), .ref m1, .ref m2, .int mf, .int (nI mcd), .ref m3, .ref m4, .ref m5, .ref m6, .int (nI mev), .ref m7, .ref m8, .ref m9, .ref m10, .ref m11, .ref m12, .ref m13, .int mwh, .int mps, .ref m14, .ref m15, .long mlr, .int (nI mlt), .int (nI mlm), .ref m16, .int mln, .ref m17])), (m3, .inl (cI, 60, .inl (upd gpl mcd (nI x)))), (m4, .inl (cI, 60, .inl gmk)), (m5, .inl (cI, 60, .inl gbh)), (m6, .inl (cL, 60, .inr (.inl gbs))), (m9, .inl (cL, 30, .inr (.inl gtn)))] H1 := hPn
  replace hD : va_D A [(m0, .inr (9, [.int mth, .int (nI mt), .ref m1, .ref m2, .int mf, .int (nI mcd), .ref m3, .ref m4, .ref m5, .ref m6, .int (nI mev), .ref m7, .ref m8, .ref m9, .ref m10, .ref m11, .ref m12, .ref m13, .int mwh, .int mps, .ref m14, .ref m15, .long mlr, .int (nI mlt), .int (nI mlm), .ref m16, .int mln, .ref m17])), (m3, .inl (cI, 60, .inl (upd gpl mcd (nI x)))), (m4, .inl (cI, 60, .inl gmk)), (m5, .inl (cI, 60, .inl gbh)), (m6, .inl (cL, 60, .inr (.inl gbs))), (m9, .inl (cL, 30, .inr (.inl gtn)))] := hDn
  replace hS := hSn
  clear hPn hDn hSn
  refine lv_aload_n hx hb d_Mo_condition_III_14 rfl (lv_at hl 1 rfl) ?_
  refine va_get (D := (dC, dI)) (ci := 9) (v := .ref m4) (C := "NetUnfolderModel") (T := T_Mo) (N := 28) hx hb ht in_Mo hown hK hP 0 rfl rfl 7 (by decide) (ht _ wd_4_7) (fun _ h9 => h9) rfl d_Mo_condition_III_15 ?_
  refine lv_iload hx hb d_Mo_condition_III_18 (lv_at hl 0 rfl) ?_
  refine lv_iload_n hx hb d_Mo_condition_III_20 rfl (lv_at hl 3 rfl) ?_
  refine na_iast (k := mcd) hx hb hK hP hD hS 2 0 rfl rfl (by omega) (by decide) d_Mo_condition_III_21 (fun H2 locs hPn hDn hSn => ?_)
  replace hP : va_P (dC, dI) clA [(m0, .inr (9, [.int mth, .int (nI mt), .ref m1, .ref m2, .int mf, .int (nI mcd), .ref m3, .ref m4, .ref m5, .ref m6, .int (nI mev), .ref m7, .ref m8, .ref m9, .ref m10, .ref m11, .ref m12, .ref m13, .int mwh, .int mps, .ref m14, .ref m15, .long mlr, .int (nI mlt), .int (nI mlm), .ref m16, .int mln, .ref m17])), (m3, .inl (cI, 60, .inl (upd gpl mcd (nI x)))), (m4, .inl (cI, 60, .inl (upd gmk mcd y))), (m5, .inl (cI, 60, .inl gbh)), (m6, .inl (cL, 60, .inr (.inl gbs))), (m9, .inl (cL, 30, .inr (.inl gtn)))] H2 := hPn
  replace hD : va_D A [(m0, .inr (9, [.int mth, .int (nI mt), .ref m1, .ref m2, .int mf, .int (nI mcd), .ref m3, .ref m4, .ref m5, .ref m6, .int (nI mev), .ref m7, .ref m8, .ref m9, .ref m10, .ref m11, .ref m12, .ref m13, .int mwh, .int mps, .ref m14, .ref m15, .long mlr, .int (nI mlt), .int (nI mlm), .ref m16, .int mln, .ref m17])), (m3, .inl (cI, 60, .inl (upd gpl mcd (nI x)))), (m4, .inl (cI, 60, .inl (upd gmk mcd y))), (m5, .inl (cI, 60, .inl gbh)), (m6, .inl (cL, 60, .inr (.inl gbs))), (m9, .inl (cL, 30, .inr (.inl gtn)))] := hDn
  replace hS := hSn
  clear hPn hDn hSn
  refine lv_aload_n hx hb d_Mo_condition_III_22 rfl (lv_at hl 1 rfl) ?_
  refine va_get (D := (dC, dI)) (ci := 9) (v := .ref m5) (C := "NetUnfolderModel") (T := T_Mo) (N := 28) hx hb ht in_Mo hown hK hP 0 rfl rfl 8 (by decide) (ht _ wd_4_8) (fun _ h9 => h9) rfl d_Mo_condition_III_23 ?_
  refine lv_iload hx hb d_Mo_condition_III_26 (lv_at hl 0 rfl) ?_
  refine lv_iload_n hx hb d_Mo_condition_III_28 rfl (lv_at hl 4 rfl) ?_
  refine na_iast (k := mcd) hx hb hK hP hD hS 3 0 rfl rfl (by omega) (by decide) d_Mo_condition_III_29 (fun H3 locs hPn hDn hSn => ?_)
  replace hP : va_P (dC, dI) clA [(m0, .inr (9, [.int mth, .int (nI mt), .ref m1, .ref m2, .int mf, .int (nI mcd), .ref m3, .ref m4, .ref m5, .ref m6, .int (nI mev), .ref m7, .ref m8, .ref m9, .ref m10, .ref m11, .ref m12, .ref m13, .int mwh, .int mps, .ref m14, .ref m15, .long mlr, .int (nI mlt), .int (nI mlm), .ref m16, .int mln, .ref m17])), (m3, .inl (cI, 60, .inl (upd gpl mcd (nI x)))), (m4, .inl (cI, 60, .inl (upd gmk mcd y))), (m5, .inl (cI, 60, .inl (upd gbh mcd z))), (m6, .inl (cL, 60, .inr (.inl gbs))), (m9, .inl (cL, 30, .inr (.inl gtn)))] H3 := hPn
  replace hD : va_D A [(m0, .inr (9, [.int mth, .int (nI mt), .ref m1, .ref m2, .int mf, .int (nI mcd), .ref m3, .ref m4, .ref m5, .ref m6, .int (nI mev), .ref m7, .ref m8, .ref m9, .ref m10, .ref m11, .ref m12, .ref m13, .int mwh, .int mps, .ref m14, .ref m15, .long mlr, .int (nI mlt), .int (nI mlm), .ref m16, .int mln, .ref m17])), (m3, .inl (cI, 60, .inl (upd gpl mcd (nI x)))), (m4, .inl (cI, 60, .inl (upd gmk mcd y))), (m5, .inl (cI, 60, .inl (upd gbh mcd z))), (m6, .inl (cL, 60, .inr (.inl gbs))), (m9, .inl (cL, 30, .inr (.inl gtn)))] := hDn
  replace hS := hSn
  clear hPn hDn hSn
  refine lv_aload_n hx hb d_Mo_condition_III_30 rfl (lv_at hl 1 rfl) ?_
  refine va_get (D := (dC, dI)) (ci := 9) (v := .ref m6) (C := "NetUnfolderModel") (T := T_Mo) (N := 28) hx hb ht in_Mo hown hK hP 0 rfl rfl 9 (by decide) (ht _ wd_4_9) (fun _ h9 => h9) rfl d_Mo_condition_III_31 ?_
  refine lv_iload hx hb d_Mo_condition_III_34 (lv_at hl 0 rfl) ?_
  refine lv_lconst (v := 0) hx hb d_Mo_condition_III_36 (by decide) ?_
  refine na_last (k := mcd) hx hb hK hP hD hS 4 1 rfl rfl (by omega) (by decide) d_Mo_condition_III_37 (fun H4 locs hPn hDn hSn => ?_)
  replace hP : va_P (dC, dI) clA [(m0, .inr (9, [.int mth, .int (nI mt), .ref m1, .ref m2, .int mf, .int (nI mcd), .ref m3, .ref m4, .ref m5, .ref m6, .int (nI mev), .ref m7, .ref m8, .ref m9, .ref m10, .ref m11, .ref m12, .ref m13, .int mwh, .int mps, .ref m14, .ref m15, .long mlr, .int (nI mlt), .int (nI mlm), .ref m16, .int mln, .ref m17])), (m3, .inl (cI, 60, .inl (upd gpl mcd (nI x)))), (m4, .inl (cI, 60, .inl (upd gmk mcd y))), (m5, .inl (cI, 60, .inl (upd gbh mcd z))), (m6, .inl (cL, 60, .inr (.inl (vp_updL gbs mcd 0)))), (m9, .inl (cL, 30, .inr (.inl gtn)))] H4 := hPn
  replace hD : va_D A [(m0, .inr (9, [.int mth, .int (nI mt), .ref m1, .ref m2, .int mf, .int (nI mcd), .ref m3, .ref m4, .ref m5, .ref m6, .int (nI mev), .ref m7, .ref m8, .ref m9, .ref m10, .ref m11, .ref m12, .ref m13, .int mwh, .int mps, .ref m14, .ref m15, .long mlr, .int (nI mlt), .int (nI mlm), .ref m16, .int mln, .ref m17])), (m3, .inl (cI, 60, .inl (upd gpl mcd (nI x)))), (m4, .inl (cI, 60, .inl (upd gmk mcd y))), (m5, .inl (cI, 60, .inl (upd gbh mcd z))), (m6, .inl (cL, 60, .inr (.inl (vp_updL gbs mcd 0)))), (m9, .inl (cL, 30, .inr (.inl gtn)))] := hDn
  replace hS := hSn
  clear hPn hDn hSn
  refine lv_aload_n hx hb d_Mo_condition_III_38 rfl (lv_at hl 1 rfl) ?_
  refine lv_dup hx hb d_Mo_condition_III_39 rfl ?_
  refine va_get (D := (dC, dI)) (ci := 9) (v := .int (nI mcd)) (C := "NetUnfolderModel") (T := T_Mo) (N := 28) hx hb ht in_Mo hown hK hP 0 rfl rfl 5 (by decide) (ht _ wd_4_5) (fun _ h9 => h9) rfl d_Mo_condition_III_40 ?_
  refine lv_iconst (v := 1) hx hb d_Mo_condition_III_43 (by decide) ?_
  refine lv_iadd hx hb d_Mo_condition_III_44 ?_
  refine ci_i (y := nI (mcd + 1)) (cv_add mcd 1) ?_
  refine va_put (D := (dC, dI)) (ci := 9) (v := .int (nI (mcd + 1))) (ty := .int) (C := "NetUnfolderModel") (T := T_Mo) (N := 28) hx hb ht in_Mo ty_Mo ok_Mo nm_Mo hown hK hP hD hS 0 rfl rfl 5 (by decide) (ht _ wd_4_5) (fun _ h9 => h9) rfl (by decide +kernel) rfl rfl (Nat.le_of_ble_eq_true rfl) d_Mo_condition_III_45 (fun H5 locs hPn hDn hSn => ?_)
  replace hP : va_P (dC, dI) clA [(m0, .inr (9, [.int mth, .int (nI mt), .ref m1, .ref m2, .int mf, .int (nI (mcd + 1)), .ref m3, .ref m4, .ref m5, .ref m6, .int (nI mev), .ref m7, .ref m8, .ref m9, .ref m10, .ref m11, .ref m12, .ref m13, .int mwh, .int mps, .ref m14, .ref m15, .long mlr, .int (nI mlt), .int (nI mlm), .ref m16, .int mln, .ref m17])), (m3, .inl (cI, 60, .inl (upd gpl mcd (nI x)))), (m4, .inl (cI, 60, .inl (upd gmk mcd y))), (m5, .inl (cI, 60, .inl (upd gbh mcd z))), (m6, .inl (cL, 60, .inr (.inl (vp_updL gbs mcd 0)))), (m9, .inl (cL, 30, .inr (.inl gtn)))] H5 := hPn
  replace hD : va_D A [(m0, .inr (9, [.int mth, .int (nI mt), .ref m1, .ref m2, .int mf, .int (nI (mcd + 1)), .ref m3, .ref m4, .ref m5, .ref m6, .int (nI mev), .ref m7, .ref m8, .ref m9, .ref m10, .ref m11, .ref m12, .ref m13, .int mwh, .int mps, .ref m14, .ref m15, .long mlr, .int (nI mlt), .int (nI mlm), .ref m16, .int mln, .ref m17])), (m3, .inl (cI, 60, .inl (upd gpl mcd (nI x)))), (m4, .inl (cI, 60, .inl (upd gmk mcd y))), (m5, .inl (cI, 60, .inl (upd gbh mcd z))), (m6, .inl (cL, 60, .inr (.inl (vp_updL gbs mcd 0)))), (m9, .inl (cL, 30, .inr (.inl gtn)))] := hDn
  replace hS := hSn
  clear hPn hDn hSn
  refine lv_iconst (v := 0) hx hb d_Mo_condition_III_48 (by decide) ?_
  refine lv_istore (lv' := [(5, .int 0), (4, .int (nI mcd)), (0, .ref m0), (1, .int (nI x)), (2, .int y), (3, .int z)]) hx hb d_Mo_condition_III_49 hl (by decide) rfl (fun ls hln => ?_)
  replace hl : lv_has ls 6 [(5, .int 0), (4, .int (nI mcd)), (0, .ref m0), (1, .int (nI x)), (2, .int y), (3, .int z)] := hln
  clear hln
  have hloop6 : ∀ (n51 : Nat) (i : Nat) (gbs2 : Nat → Int64) (hi : i ≤ mcd) (hbM : BsM gbs2 mcd (fun c d => c ≠ d ∧ Tog bh tk c d) i) (H : Heap) (locs : List Loc) (ls : Array Slot) (hl : lv_has ls 6 [(0, .ref m0), (1, .int (nI x)), (2, .int y), (3, .int z), (4, .int (nI mcd)), (5, .int (nI i))]) (hP : va_P (dC, dI) clA [(m0, .inr (9, [.int mth, .int (nI mt), .ref m1, .ref m2, .int mf, .int (nI (mcd + 1)), .ref m3, .ref m4, .ref m5, .ref m6, .int (nI mev), .ref m7, .ref m8, .ref m9, .ref m10, .ref m11, .ref m12, .ref m13, .int mwh, .int mps, .ref m14, .ref m15, .long mlr, .int (nI mlt), .int (nI mlm), .ref m16, .int mln, .ref m17])), (m3, .inl (cI, 60, .inl (upd gpl mcd (nI x)))), (m4, .inl (cI, 60, .inl (upd gmk mcd y))), (m5, .inl (cI, 60, .inl (upd gbh mcd z))), (m6, .inl (cL, 60, .inr (.inl gbs2))), (m9, .inl (cL, 30, .inr (.inl gtn)))] H) (hD : va_D A [(m0, .inr (9, [.int mth, .int (nI mt), .ref m1, .ref m2, .int mf, .int (nI (mcd + 1)), .ref m3, .ref m4, .ref m5, .ref m6, .int (nI mev), .ref m7, .ref m8, .ref m9, .ref m10, .ref m11, .ref m12, .ref m13, .int mwh, .int mps, .ref m14, .ref m15, .long mlr, .int (nI mlt), .int (nI mlm), .ref m16, .int mln, .ref m17])), (m3, .inl (cI, 60, .inl (upd gpl mcd (nI x)))), (m4, .inl (cI, 60, .inl (upd gmk mcd y))), (m5, .inl (cI, 60, .inl (upd gbh mcd z))), (m6, .inl (cL, 60, .inr (.inl gbs2))), (m9, .inl (cL, 30, .inr (.inl gtn)))]) (hS : va_S A s.heap H locs) (hm51 : mcd - i < n51), W p l e (headSpec (Cond.code y_Mo_condition_III prog_11_method_14_code 6 none :: wsA) { frames := 3, cells := 0, slots := 0, locals := 71 }).room s m ([.ref m0, .int (nI x), .int y, .int z] : List Value).toArray below meth c H locs 0 0 Q (F0 m 51 ls []) := by
    clear hl hP hD hS
    intro n51
    induction n51 with
    | zero => intro i gbs2 hi hbM H locs ls hl hP hD hS hm; exact absurd hm (Nat.not_lt_zero _)
    | succ n51 hloop6_ih =>
      intro i gbs2 hi hbM H locs ls hl hP hD hS hm51
      have hb9 := hbM
      refine lv_iload hx hb d_Mo_condition_III_51 (lv_at hl 5 rfl) ?_
      refine lv_iload hx hb d_Mo_condition_III_53 (lv_at hl 4 rfl) ?_
      refine lv_icmp_ge (tgt := 103) hx hb d_Mo_condition_III_55 (by decide) (fun hb7 => ?_) (fun hb7 => ?_)
      · skip
        replace hb7 := cv_le (a := mcd) (b := i) (by omega) (by omega) hb7
        have hP9 := hP.sub (ws' := [(m0, .inr (9, [.int mth, .int (nI mt), .ref m1, .ref m2, .int mf, .int (nI (mcd + 1)), .ref m3, .ref m4, .ref m5, .ref m6, .int (nI mev), .ref m7, .ref m8, .ref m9, .ref m10, .ref m11, .ref m12, .ref m13, .int mwh, .int mps, .ref m14, .ref m15, .long mlr, .int (nI mlt), .int (nI mlm), .ref m16, .int mln, .ref m17])), (m3, .inl (cI, 60, .inl (upd gpl mcd (nI x)))), (m4, .inl (cI, 60, .inl (upd gmk mcd y))), (m5, .inl (cI, 60, .inl (upd gbh mcd z))), (m6, .inl (cL, 60, .inr (.inl gbs2))), (m9, .inl (cL, 30, .inr (.inl gtn)))]) [0, 1, 2, 3, 4, 5] rfl
        have hD9 := hD.sub (ws' := [(m0, .inr (9, [.int mth, .int (nI mt), .ref m1, .ref m2, .int mf, .int (nI (mcd + 1)), .ref m3, .ref m4, .ref m5, .ref m6, .int (nI mev), .ref m7, .ref m8, .ref m9, .ref m10, .ref m11, .ref m12, .ref m13, .int mwh, .int mps, .ref m14, .ref m15, .long mlr, .int (nI mlt), .int (nI mlm), .ref m16, .int mln, .ref m17])), (m3, .inl (cI, 60, .inl (upd gpl mcd (nI x)))), (m4, .inl (cI, 60, .inl (upd gmk mcd y))), (m5, .inl (cI, 60, .inl (upd gbh mcd z))), (m6, .inl (cL, 60, .inr (.inl gbs2))), (m9, .inl (cL, 30, .inr (.inl gtn)))]) [0, 1, 2, 3, 4, 5] (by decide) rfl
        subst hQ
        exact W.vret hx hb hr (fun t9 ht9 hW => ⟨⟨(), rfl, trivial, gbs2, (BsM.done (by have e9 : i = mcd := (by omega); subst e9; exact hb9) (fun q => q.1 rfl)), by rw [ht9]; exact hP9, hD9⟩, hS.F ht9⟩) hS.2.2 d_Mo_condition_III_103
      · skip
        replace hb7 := cv_nle (a := mcd) (b := i) (by omega) (by omega) hb7
        refine lv_aload_n hx hb d_Mo_condition_III_58 rfl (lv_at hl 0 rfl) ?_
        refine lv_iload hx hb d_Mo_condition_III_59 (lv_at hl 4 rfl) ?_
        refine lv_iload hx hb d_Mo_condition_III_61 (lv_at hl 5 rfl) ?_
        have hPc := hP.sub (ws' := [(m0, .inr (9, [.int mth, .int (nI mt), .ref m1, .ref m2, .int mf, .int (nI (mcd + 1)), .ref m3, .ref m4, .ref m5, .ref m6, .int (nI mev), .ref m7, .ref m8, .ref m9, .ref m10, .ref m11, .ref m12, .ref m13, .int mwh, .int mps, .ref m14, .ref m15, .long mlr, .int (nI mlt), .int (nI mlm), .ref m16, .int mln, .ref m17])), (m5, .inl (cI, 60, .inl (upd gbh mcd z))), (m9, .inl (cL, 30, .inr (.inl gtn)))]) [0, 3, 5] rfl
        have hDc := hD.sub (ws' := [(m0, .inr (9, [.int mth, .int (nI mt), .ref m1, .ref m2, .int mf, .int (nI (mcd + 1)), .ref m3, .ref m4, .ref m5, .ref m6, .int (nI mev), .ref m7, .ref m8, .ref m9, .ref m10, .ref m11, .ref m12, .ref m13, .int mwh, .int mps, .ref m14, .ref m15, .long mlr, .int (nI mlt), .int (nI mlm), .ref m16, .int mln, .ref m17])), (m5, .inl (cI, 60, .inl (upd gbh mcd z))), (m9, .inl (cL, 30, .inr (.inl gtn)))]) [0, 3, 5] (by decide) rfl
        have hFc := va_free (wc := [(m0, .inr (9, [.int mth, .int (nI mt), .ref m1, .ref m2, .int mf, .int (nI (mcd + 1)), .ref m3, .ref m4, .ref m5, .ref m6, .int (nI mev), .ref m7, .ref m8, .ref m9, .ref m10, .ref m11, .ref m12, .ref m13, .int mwh, .int mps, .ref m14, .ref m15, .long mlr, .int (nI mlt), .int (nI mlm), .ref m16, .int mln, .ref m17])), (m5, .inl (cI, 60, .inl (upd gbh mcd z))), (m9, .inl (cL, 30, .inr (.inl gtn)))]) hD hS hA [0, 3, 5] rfl
        refine va_calli (va_runV (C := "NetUnfolderModel") (As := [.int (nI mcd), .int (nI i)]) (rest := []) ⟨hx, hb, hml, hown, ht⟩ (e_Mo_together l dC dI cI cL cZ _ m0 m1 m2 m3 m4 m5 m6 m7 m8 m9 m10 m11 m12 m13 m14 m15 m16 m17 mth mt mf (mcd + 1) mev mwh mps mlr mlt mlm mln (upd gbh mcd z) gtn mcd i bh tk (by first | assumption | omega | trivial | exact AllLt.zero | exact AllN.zero | exact AllM.zero | exact Or.inl rfl | exact Or.inr rfl) (by first | assumption | omega | trivial | exact AllLt.zero | exact AllN.zero | exact AllM.zero | exact Or.inl rfl | exact Or.inr rfl) (by first | assumption | omega | trivial | exact AllLt.zero | exact AllN.zero | exact AllM.zero | exact Or.inl rfl | exact Or.inr rfl) (by rw [upd_at]; exact hBn) (by rw [upd_ne (by omega)]; exact hBh _ (by omega)) (by first | assumption | omega | trivial | exact AllLt.zero | exact AllN.zero | exact AllM.zero | exact Or.inl rfl | exact Or.inr rfl) (by first | assumption | omega | trivial | exact AllLt.zero | exact AllN.zero | exact AllM.zero | exact Or.inl rfl | exact Or.inr rfl) (by first | assumption | omega | trivial | exact AllLt.zero | exact AllN.zero | exact AllM.zero | exact Or.inl rfl | exact Or.inr rfl)) (cwV 2 ht (good_V wd_4_113 wd_4_115 ws_Mo_together wd_1_10 wd_4_116) rfl rfl rfl (by decide +kernel) ⟨Nat.le_of_ble_eq_true rfl, Nat.le_of_ble_eq_true rfl⟩) ⟨fun a U g mk q => by obtain ⟨q0, q1, qP, qK, qD, qN⟩ := q; exact ⟨q0, q1, qP, va_K.moved (u := U) (U := U.calling g mk a) (Vm.Alike.refl U.vm) qK, qD, NwA.same (u := U) rfl qN⟩, (va_recv (q0 := 0) (ci := 9) hK hP rfl rfl), fun U hU hW => ⟨rfl, by rw [hU], by rw [hU]; exact hPc, va_K.moved hW.alike hK, hDc.weaken (fun _ _ _ _ => trivial), NwA.warm hW hN⟩⟩ rfl rfl hl.1 rfl (lv_room (Nat.le_of_ble_eq_true rfl)) d_Mo_condition_III_63 ⟨Nat.le_of_ble_eq_true rfl, Nat.le_of_ble_eq_true rfl⟩) hS (fun q _ h => hFc q h) hFc (fun r10 u9 t9 H8 locs ht9 hvm hw9 hB hz1 hk1 hSn => ?_)
        obtain ⟨hP1, hD1⟩ := hB
        rw [ht9] at hP1
        obtain ⟨hPn, hDn⟩ := va_join (wr := [(m3, .inl (cI, 60, .inl (upd gpl mcd (nI x)))), (m4, .inl (cI, 60, .inl (upd gmk mcd y))), (m6, .inl (cL, 60, .inr (.inl gbs2)))]) (w1 := [(m0, .inr (9, [.int mth, .int (nI mt), .ref m1, .ref m2, .int mf, .int (nI (mcd + 1)), .ref m3, .ref m4, .ref m5, .ref m6, .int (nI mev), .ref m7, .ref m8, .ref m9, .ref m10, .ref m11, .ref m12, .ref m13, .int mwh, .int mps, .ref m14, .ref m15, .long mlr, .int (nI mlt), .int (nI mlm), .ref m16, .int mln, .ref m17])), (m5, .inl (cI, 60, .inl (upd gbh mcd z))), (m9, .inl (cL, 30, .inr (.inl gtn)))]) hP hD [0, 3, 5] [1, 2, 4] rfl rfl (by decide) (by decide) hk1 hFc hP1 hD1
        replace hP : va_P (dC, dI) clA [(m3, .inl (cI, 60, .inl (upd gpl mcd (nI x)))), (m4, .inl (cI, 60, .inl (upd gmk mcd y))), (m6, .inl (cL, 60, .inr (.inl gbs2))), (m0, .inr (9, [.int mth, .int (nI mt), .ref m1, .ref m2, .int mf, .int (nI (mcd + 1)), .ref m3, .ref m4, .ref m5, .ref m6, .int (nI mev), .ref m7, .ref m8, .ref m9, .ref m10, .ref m11, .ref m12, .ref m13, .int mwh, .int mps, .ref m14, .ref m15, .long mlr, .int (nI mlt), .int (nI mlm), .ref m16, .int mln, .ref m17])), (m5, .inl (cI, 60, .inl (upd gbh mcd z))), (m9, .inl (cL, 30, .inr (.inl gtn)))] H8 := hPn
        replace hD : va_D A [(m3, .inl (cI, 60, .inl (upd gpl mcd (nI x)))), (m4, .inl (cI, 60, .inl (upd gmk mcd y))), (m6, .inl (cL, 60, .inr (.inl gbs2))), (m0, .inr (9, [.int mth, .int (nI mt), .ref m1, .ref m2, .int mf, .int (nI (mcd + 1)), .ref m3, .ref m4, .ref m5, .ref m6, .int (nI mev), .ref m7, .ref m8, .ref m9, .ref m10, .ref m11, .ref m12, .ref m13, .int mwh, .int mps, .ref m14, .ref m15, .long mlr, .int (nI mlt), .int (nI mlm), .ref m16, .int mln, .ref m17])), (m5, .inl (cI, 60, .inl (upd gbh mcd z))), (m9, .inl (cL, 30, .inr (.inl gtn)))] := hDn
        replace hS := hSn
        clear hPn hDn hSn
        clear hPc hDc hFc hP1 hD1 hk1 hz1 ht9 hvm
        refine W.cs (cells' := 0) (slots' := 0) rfl rfl ?_
        have hr11 := hw9
        refine lv_if_eq (tgt := 97) hx hb d_Mo_condition_III_66 (by decide) (fun hb12 => ?_) (fun hb12 => ?_)
        · skip
          have htg := (hr11.resolve_left (fun q => by rw [hb12] at q; exact absurd q.1 (by decide))).2
          refine lv_iinc (k := 5) (v := nI (i + 1)) (lv' := [(5, .int (nI (i + 1))), (0, .ref m0), (1, .int (nI x)), (2, .int y), (3, .int z), (4, .int (nI mcd))]) hx hb d_Mo_condition_III_97 hl rfl (nI_1 _) (by decide) rfl (fun ls hln => ?_)
          replace hl : lv_has ls 6 [(5, .int (nI (i + 1))), (0, .ref m0), (1, .int (nI x)), (2, .int y), (3, .int z), (4, .int (nI mcd))] := hln
          clear hln
          refine lv_goto (tgt := 51) hx hb d_Mo_condition_III_100 (by decide) ?_
          exact hloop6_ih (i + 1) gbs2 (by first | assumption | omega | trivial | exact AllLt.zero | exact AllN.zero | exact AllM.zero | exact Or.inl rfl | exact Or.inr rfl) (BsM.skip hb9 (by omega) (fun q => htg q.2) (fun q => htg q.2.symm)) _ _ ls (lv_sub hl [1, 2, 3, 4, 5, 0] rfl) (hP.sub [3, 0, 1, 4, 2, 5] rfl) (hD.sub [3, 0, 1, 4, 2, 5] (by decide) rfl) hS (by omega)
        · skip
          have htg := (hr11.resolve_right (fun q => hb12 q.1)).2
          refine lv_aload_n hx hb d_Mo_condition_III_69 rfl (lv_at hl 0 rfl) ?_
          refine va_get (D := (dC, dI)) (ci := 9) (v := .ref m6) (C := "NetUnfolderModel") (T := T_Mo) (N := 28) hx hb ht in_Mo hown hK hP 3 rfl rfl 9 (by decide) (ht _ wd_4_9) (fun _ h9 => h9) rfl d_Mo_condition_III_70 ?_
          refine lv_iload hx hb d_Mo_condition_III_73 (lv_at hl 4 rfl) ?_
          refine lv_dup2_11 hx hb d_Mo_condition_III_75 rfl rfl ?_
          refine na_lald (k := mcd) hx hb hK hP 2 1 rfl rfl (by omega) (by decide) d_Mo_condition_III_76 ?_
          refine lv_lconst (v := 1) hx hb d_Mo_condition_III_77 (by decide) ?_
          refine lv_iload hx hb d_Mo_condition_III_78 (lv_at hl 5 rfl) ?_
          refine lv_lshl (v := 1 <<< (Int32.toInt64 (nI i) &&& 63)) hx hb d_Mo_condition_III_80 rfl ?_
          refine lv_lor hx hb d_Mo_condition_III_81 ?_
          refine na_last (k := mcd) hx hb hK hP hD hS 2 1 rfl rfl (by omega) (by decide) d_Mo_condition_III_82 (fun H13 locs hPn hDn hSn => ?_)
          replace hP : va_P (dC, dI) clA [(m3, .inl (cI, 60, .inl (upd gpl mcd (nI x)))), (m4, .inl (cI, 60, .inl (upd gmk mcd y))), (m6, .inl (cL, 60, .inr (.inl (vp_updL gbs2 mcd ((gbs2 mcd) ||| (1 <<< (Int32.toInt64 (nI i) &&& 63))))))), (m0, .inr (9, [.int mth, .int (nI mt), .ref m1, .ref m2, .int mf, .int (nI (mcd + 1)), .ref m3, .ref m4, .ref m5, .ref m6, .int (nI mev), .ref m7, .ref m8, .ref m9, .ref m10, .ref m11, .ref m12, .ref m13, .int mwh, .int mps, .ref m14, .ref m15, .long mlr, .int (nI mlt), .int (nI mlm), .ref m16, .int mln, .ref m17])), (m5, .inl (cI, 60, .inl (upd gbh mcd z))), (m9, .inl (cL, 30, .inr (.inl gtn)))] H13 := hPn
          replace hD : va_D A [(m3, .inl (cI, 60, .inl (upd gpl mcd (nI x)))), (m4, .inl (cI, 60, .inl (upd gmk mcd y))), (m6, .inl (cL, 60, .inr (.inl (vp_updL gbs2 mcd ((gbs2 mcd) ||| (1 <<< (Int32.toInt64 (nI i) &&& 63))))))), (m0, .inr (9, [.int mth, .int (nI mt), .ref m1, .ref m2, .int mf, .int (nI (mcd + 1)), .ref m3, .ref m4, .ref m5, .ref m6, .int (nI mev), .ref m7, .ref m8, .ref m9, .ref m10, .ref m11, .ref m12, .ref m13, .int mwh, .int mps, .ref m14, .ref m15, .long mlr, .int (nI mlt), .int (nI mlm), .ref m16, .int mln, .ref m17])), (m5, .inl (cI, 60, .inl (upd gbh mcd z))), (m9, .inl (cL, 30, .inr (.inl gtn)))] := hDn
          replace hS := hSn
          clear hPn hDn hSn
          refine lv_aload_n hx hb d_Mo_condition_III_83 rfl (lv_at hl 0 rfl) ?_
          refine va_get (D := (dC, dI)) (ci := 9) (v := .ref m6) (C := "NetUnfolderModel") (T := T_Mo) (N := 28) hx hb ht in_Mo hown hK hP 3 rfl rfl 9 (by decide) (ht _ wd_4_9) (fun _ h9 => h9) rfl d_Mo_condition_III_84 ?_
          refine lv_iload hx hb d_Mo_condition_III_87 (lv_at hl 5 rfl) ?_
          refine lv_dup2_11 hx hb d_Mo_condition_III_89 rfl rfl ?_
          refine na_lald (k := i) hx hb hK hP 2 1 rfl rfl (by omega) (by decide) d_Mo_condition_III_90 ?_
          refine lv_lconst (v := 1) hx hb d_Mo_condition_III_91 (by decide) ?_
          refine lv_iload hx hb d_Mo_condition_III_92 (lv_at hl 4 rfl) ?_
          refine lv_lshl (v := 1 <<< (Int32.toInt64 (nI mcd) &&& 63)) hx hb d_Mo_condition_III_94 rfl ?_
          refine lv_lor hx hb d_Mo_condition_III_95 ?_
          refine na_last (k := i) hx hb hK hP hD hS 2 1 rfl rfl (by omega) (by decide) d_Mo_condition_III_96 (fun H14 locs hPn hDn hSn => ?_)
          replace hP : va_P (dC, dI) clA [(m3, .inl (cI, 60, .inl (upd gpl mcd (nI x)))), (m4, .inl (cI, 60, .inl (upd gmk mcd y))), (m6, .inl (cL, 60, .inr (.inl (vp_updL (vp_updL gbs2 mcd ((gbs2 mcd) ||| (1 <<< (Int32.toInt64 (nI i) &&& 63)))) i (((vp_updL gbs2 mcd ((gbs2 mcd) ||| (1 <<< (Int32.toInt64 (nI i) &&& 63)))) i) ||| (1 <<< (Int32.toInt64 (nI mcd) &&& 63))))))), (m0, .inr (9, [.int mth, .int (nI mt), .ref m1, .ref m2, .int mf, .int (nI (mcd + 1)), .ref m3, .ref m4, .ref m5, .ref m6, .int (nI mev), .ref m7, .ref m8, .ref m9, .ref m10, .ref m11, .ref m12, .ref m13, .int mwh, .int mps, .ref m14, .ref m15, .long mlr, .int (nI mlt), .int (nI mlm), .ref m16, .int mln, .ref m17])), (m5, .inl (cI, 60, .inl (upd gbh mcd z))), (m9, .inl (cL, 30, .inr (.inl gtn)))] H14 := hPn
          replace hD : va_D A [(m3, .inl (cI, 60, .inl (upd gpl mcd (nI x)))), (m4, .inl (cI, 60, .inl (upd gmk mcd y))), (m6, .inl (cL, 60, .inr (.inl (vp_updL (vp_updL gbs2 mcd ((gbs2 mcd) ||| (1 <<< (Int32.toInt64 (nI i) &&& 63)))) i (((vp_updL gbs2 mcd ((gbs2 mcd) ||| (1 <<< (Int32.toInt64 (nI i) &&& 63)))) i) ||| (1 <<< (Int32.toInt64 (nI mcd) &&& 63))))))), (m0, .inr (9, [.int mth, .int (nI mt), .ref m1, .ref m2, .int mf, .int (nI (mcd + 1)), .ref m3, .ref m4, .ref m5, .ref m6, .int (nI mev), .ref m7, .ref m8, .ref m9, .ref m10, .ref m11, .ref m12, .ref m13, .int mwh, .int mps, .ref m14, .ref m15, .long mlr, .int (nI mlt), .int (nI mlm), .ref m16, .int mln, .ref m17])), (m5, .inl (cI, 60, .inl (upd gbh mcd z))), (m9, .inl (cL, 30, .inr (.inl gtn)))] := hDn
          replace hS := hSn
          clear hPn hDn hSn
          refine lv_iinc (k := 5) (v := nI (i + 1)) (lv' := [(5, .int (nI (i + 1))), (0, .ref m0), (1, .int (nI x)), (2, .int y), (3, .int z), (4, .int (nI mcd))]) hx hb d_Mo_condition_III_97 hl rfl (nI_1 _) (by decide) rfl (fun ls hln => ?_)
          replace hl : lv_has ls 6 [(5, .int (nI (i + 1))), (0, .ref m0), (1, .int (nI x)), (2, .int y), (3, .int z), (4, .int (nI mcd))] := hln
          clear hln
          refine lv_goto (tgt := 51) hx hb d_Mo_condition_III_100 (by decide) ?_
          exact hloop6_ih (i + 1) (vp_updL (vp_updL gbs2 mcd ((gbs2 mcd) ||| (1 <<< (Int32.toInt64 (nI i) &&& 63)))) i (((vp_updL gbs2 mcd ((gbs2 mcd) ||| (1 <<< (Int32.toInt64 (nI i) &&& 63)))) i) ||| (1 <<< (Int32.toInt64 (nI mcd) &&& 63)))) (by first | assumption | omega | trivial | exact AllLt.zero | exact AllN.zero | exact AllM.zero | exact Or.inl rfl | exact Or.inr rfl) (BsM.put hb9 (by omega) hcd ⟨by omega, htg⟩ ⟨by omega, htg.symm⟩) _ _ ls (lv_sub hl [1, 2, 3, 4, 5, 0] rfl) (hP.sub [3, 0, 1, 4, 2, 5] rfl) (hD.sub [3, 0, 1, 4, 2, 5] (by decide) rfl) hS (by omega)
  exact hloop6 ((mcd - 0) + 1) 0 (vp_updL gbs mcd 0) (by first | assumption | omega | trivial | exact AllLt.zero | exact AllN.zero | exact AllM.zero | exact Or.inl rfl | exact Or.inr rfl) (BsM.zero hBs) _ _ ls (lv_sub hl [2, 3, 4, 5, 1, 0] rfl) hP hD hS (Nat.lt_succ_self _)
