set_option maxHeartbeats 4000000 in
set_option maxRecDepth 100000 in
theorem c_Mo_markingOf (l : Launch) (dC : Nat → ClassId) (dI : Nat → Nat → Nat) (cI cL cZ : ClassId) (sz : Nat) (m0 : Nat) (m1 : Nat) (m2 : Nat) (m3 : Nat) (m4 : Nat) (m5 : Nat) (m6 : Nat) (m7 : Nat) (m8 : Nat) (m9 : Nat) (m10 : Nat) (m11 : Nat) (m12 : Nat) (m13 : Nat) (m14 : Nat) (m15 : Nat) (m16 : Nat) (m17 : Nat) (mth : Int32) (mt : Nat) (mf : Int32) (mcd : Nat) (mev : Nat) (mwh : Int32) (mps : Int32) (mlr : Int64) (mlt : Nat) (mlm : Nat) (mln : Int32) (mp : Nat → Int32) (mq : Nat → Int32) (gtr : Nat → Int32) (x : Int64) (hev : mev ≤ 30) (hgtr : AllLt gtr mev 8) : Met l y_Mo_markingOf (Cond.code y_Mo_markingOf prog_11_method_13_code 5 (some .int) :: wsA) { frames := 1, cells := 0, slots := 0, locals := 22 } (va_Pc [.ref m0, .long x] (fun U => U.heap.size = sz ∧ va_P (dC, dI) clA [(m0, .inr (9, [.int mth, .int (nI mt), .ref m1, .ref m2, .int mf, .int (nI mcd), .ref m3, .ref m4, .ref m5, .ref m6, .int (nI mev), .ref m7, .ref m8, .ref m9, .ref m10, .ref m11, .ref m12, .ref m13, .int mwh, .int mps, .ref m14, .ref m15, .long mlr, .int (nI mlt), .int (nI mlm), .ref m16, .int mln, .ref m17])), (m1, .inl (cI, 8, .inl mp)), (m2, .inl (cI, 8, .inl mq)), (m7, .inl (cI, 30, .inl gtr))] U.heap ∧ va_K (dC, dI) clA [(cI, .int), (cL, .long), (cZ, .boolean)] U ∧ va_D (fun _ => True) [(m0, .inr (9, [.int mth, .int (nI mt), .ref m1, .ref m2, .int mf, .int (nI mcd), .ref m3, .ref m4, .ref m5, .ref m6, .int (nI mev), .ref m7, .ref m8, .ref m9, .ref m10, .ref m11, .ref m12, .ref m13, .int mwh, .int mps, .ref m14, .ref m15, .long mlr, .int (nI mlt), .int (nI mlm), .ref m16, .int mln, .ref m17])), (m1, .inl (cI, 8, .inl mp)), (m2, .inl (cI, 8, .inl mq)), (m7, .inl (cI, 30, .inl gtr))] ∧ NwA U)) (va_Qi (fun r (_ : Unit) => True) (fun _ t => va_P (dC, dI) clA [(m0, .inr (9, [.int mth, .int (nI mt), .ref m1, .ref m2, .int mf, .int (nI mcd), .ref m3, .ref m4, .ref m5, .ref m6, .int (nI mev), .ref m7, .ref m8, .ref m9, .ref m10, .ref m11, .ref m12, .ref m13, .int mwh, .int mps, .ref m14, .ref m15, .long mlr, .int (nI mlt), .int (nI mlm), .ref m16, .int mln, .ref m17])), (m1, .inl (cI, 8, .inl mp)), (m2, .inl (cI, 8, .inl mq)), (m7, .inl (cI, 30, .inl gtr))] t.heap ∧ va_D (va_A [(m0, .inr (9, [.int mth, .int (nI mt), .ref m1, .ref m2, .int mf, .int (nI mcd), .ref m3, .ref m4, .ref m5, .ref m6, .int (nI mev), .ref m7, .ref m8, .ref m9, .ref m10, .ref m11, .ref m12, .ref m13, .int mwh, .int mps, .ref m14, .ref m15, .long mlr, .int (nI mlt), .int (nI mlm), .ref m16, .int mln, .ref m17])), (m1, .inl (cI, 8, .inl mp)), (m2, .inl (cI, 8, .inl mq)), (m7, .inl (cI, 30, .inl gtr))] sz) [(m0, .inr (9, [.int mth, .int (nI mt), .ref m1, .ref m2, .int mf, .int (nI mcd), .ref m3, .ref m4, .ref m5, .ref m6, .int (nI mev), .ref m7, .ref m8, .ref m9, .ref m10, .ref m11, .ref m12, .ref m13, .int mwh, .int mps, .ref m14, .ref m15, .long mlr, .int (nI mlt), .int (nI mlm), .ref m16, .int mln, .ref m17])), (m1, .inl (cI, 8, .inl mp)), (m2, .inl (cI, 8, .inl mq)), (m7, .inl (cI, 30, .inl gtr))]) (va_A [(m0, .inr (9, [.int mth, .int (nI mt), .ref m1, .ref m2, .int mf, .int (nI mcd), .ref m3, .ref m4, .ref m5, .ref m6, .int (nI mev), .ref m7, .ref m8, .ref m9, .ref m10, .ref m11, .ref m12, .ref m13, .int mwh, .int mps, .ref m14, .ref m15, .long mlr, .int (nI mlt), .int (nI mlm), .ref m16, .int mln, .ref m17])), (m1, .inl (cI, 8, .inl mp)), (m2, .inl (cI, 8, .inl mq)), (m7, .inl (cI, 30, .inl gtr))] sz)) 0 0 (va_A [(m0, .inr (9, [.int mth, .int (nI mt), .ref m1, .ref m2, .int mf, .int (nI mcd), .ref m3, .ref m4, .ref m5, .ref m6, .int (nI mev), .ref m7, .ref m8, .ref m9, .ref m10, .ref m11, .ref m12, .ref m13, .int mwh, .int mps, .ref m14, .ref m15, .long mlr, .int (nI mlt), .int (nI mlm), .ref m16, .int mln, .ref m17])), (m1, .inl (cI, 8, .inl mp)), (m2, .inl (cI, 8, .inl mq)), (m7, .inl (cI, 30, .inl gtr))] sz) := by
  refine Met.ofW (cc := prog_11_method_13_code) (maxL := 5) (ret := (some .int)) (by decide) rfl ?_
  intro p e s m args below meth c s₁ B hml hv
  obtain ⟨rfl, hsz, hP, hK, hD0, hN⟩ := hv
  have hx := B.exec
  have hb := B.bytes
  have hr := B.returns
  have ht : ∀ w ∈ wsA, w.before _ s = true := fun w h => atoms_spec (ws := (Cond.code y_Mo_markingOf prog_11_method_13_code 5 (some .int) :: wsA)) B.pre w (List.mem_cons_of_mem _ h)
  have hown : s.vm.findClass "NetUnfolderModel" = some m.cls := findClass_of_methodNamed B.named
  have hlocks := B.notSynchronized
  subst hsz
  have hD := hD0.self (sz := s.heap.size)
  generalize hAe : va_A [(m0, .inr (9, [.int mth, .int (nI mt), .ref m1, .ref m2, .int mf, .int (nI mcd), .ref m3, .ref m4, .ref m5, .ref m6, .int (nI mev), .ref m7, .ref m8, .ref m9, .ref m10, .ref m11, .ref m12, .ref m13, .int mwh, .int mps, .ref m14, .ref m15, .long mlr, .int (nI mlt), .int (nI mlm), .ref m16, .int mln, .ref m17])), (m1, .inl (cI, 8, .inl mp)), (m2, .inl (cI, 8, .inl mq)), (m7, .inl (cI, 30, .inl gtr))] s.heap.size = A at hD ⊢
  have hA : ∀ q : Nat, s.heap.size ≤ q → A q := fun q h => by rw [← hAe]; exact Or.inr h
  have hS : va_S A s.heap s.heap [] := va_S.rf
  have hl := lv_entry ([.ref m0, .long x]) (n := 5) (Nat.le_of_ble_eq_true rfl)
  rw [lg_entry_eq]
  generalize (lg_sl ([.ref m0, .long x]) ++ List.replicate (5 - (lg_sl ([.ref m0, .long x])).length) Slot.unset).toArray = ls at hl ⊢
  replace hl : lv_has ls 5 [(0, .ref m0), (1, .long x)] := hl
  refine W_Q (fun Q hQ => ?_)
  refine lv_aload_n hx hb d_Mo_markingOf_0 rfl (lv_at hl 0 rfl) ?_
  refine va_get (D := (dC, dI)) (ci := 9) (v := .int mf) (C := "NetUnfolderModel") (T := T_Mo) (N := 28) hx hb ht in_Mo hown hK hP 0 rfl rfl 4 (by decide) (ht _ wd_4_4) (fun _ h9 => h9) rfl d_Mo_markingOf_1 ?_
  refine lv_istore_n (lv' := [(3, .int mf), (0, .ref m0), (1, .long x)]) hx hb d_Mo_markingOf_4 rfl hl (by decide) rfl (fun ls hln => ?_)
  replace hl : lv_has ls 5 [(3, .int mf), (0, .ref m0), (1, .long x)] := hln
  clear hln
  refine lv_iconst (v := 0) hx hb d_Mo_markingOf_5 (by decide) ?_
  refine lv_istore (lv' := [(4, .int 0), (3, .int mf), (0, .ref m0), (1, .long x)]) hx hb d_Mo_markingOf_6 hl (by decide) rfl (fun ls hln => ?_)
  replace hl : lv_has ls 5 [(4, .int 0), (3, .int mf), (0, .ref m0), (1, .long x)] := hln
  clear hln
  have hloop1 : ∀ (n8 : Nat) (v : Int32) (i : Nat) (hi : i ≤ mev) (H : Heap) (locs : List Loc) (ls : Array Slot) (hl : lv_has ls 5 [(0, .ref m0), (1, .long x), (3, .int v), (4, .int (nI i))]) (hP : va_P (dC, dI) clA [(m0, .inr (9, [.int mth, .int (nI mt), .ref m1, .ref m2, .int mf, .int (nI mcd), .ref m3, .ref m4, .ref m5, .ref m6, .int (nI mev), .ref m7, .ref m8, .ref m9, .ref m10, .ref m11, .ref m12, .ref m13, .int mwh, .int mps, .ref m14, .ref m15, .long mlr, .int (nI mlt), .int (nI mlm), .ref m16, .int mln, .ref m17])), (m1, .inl (cI, 8, .inl mp)), (m2, .inl (cI, 8, .inl mq)), (m7, .inl (cI, 30, .inl gtr))] H) (hD : va_D A [(m0, .inr (9, [.int mth, .int (nI mt), .ref m1, .ref m2, .int mf, .int (nI mcd), .ref m3, .ref m4, .ref m5, .ref m6, .int (nI mev), .ref m7, .ref m8, .ref m9, .ref m10, .ref m11, .ref m12, .ref m13, .int mwh, .int mps, .ref m14, .ref m15, .long mlr, .int (nI mlt), .int (nI mlm), .ref m16, .int mln, .ref m17])), (m1, .inl (cI, 8, .inl mp)), (m2, .inl (cI, 8, .inl mq)), (m7, .inl (cI, 30, .inl gtr))]) (hS : va_S A s.heap H locs) (hm8 : mev - i < n8), W p l e (headSpec (Cond.code y_Mo_markingOf prog_11_method_13_code 5 (some .int) :: wsA) { frames := 1, cells := 0, slots := 0, locals := 22 }).room s m ([.ref m0, .long x] : List Value).toArray below meth c H locs 0 0 Q (F0 m 8 ls []) := by
    clear hl hP hD hS
    intro n8
    induction n8 with
    | zero => intro v i hi H locs ls hl hP hD hS hm; exact absurd hm (Nat.not_lt_zero _)
    | succ n8 hloop1_ih =>
      intro v i hi H locs ls hl hP hD hS hm8
      refine lv_iload hx hb d_Mo_markingOf_8 (lv_at hl 3 rfl) ?_
      refine lv_aload_n hx hb d_Mo_markingOf_10 rfl (lv_at hl 0 rfl) ?_
      refine va_get (D := (dC, dI)) (ci := 9) (v := .int (nI mev)) (C := "NetUnfolderModel") (T := T_Mo) (N := 28) hx hb ht in_Mo hown hK hP 0 rfl rfl 10 (by decide) (ht _ wd_4_10) (fun _ h9 => h9) rfl d_Mo_markingOf_11 ?_
      refine lv_icmp_ge (tgt := 65) hx hb d_Mo_markingOf_14 (by decide) (fun hb2 => ?_) (fun hb2 => ?_)
      · skip
        replace hb2 := cv_le (a := mev) (b := i) (by omega) (by omega) hb2
        refine lv_iload_n hx hb d_Mo_markingOf_65 rfl (lv_at hl 2 rfl) ?_
        have hP9 := hP.sub (ws' := [(m0, .inr (9, [.int mth, .int (nI mt), .ref m1, .ref m2, .int mf, .int (nI mcd), .ref m3, .ref m4, .ref m5, .ref m6, .int (nI mev), .ref m7, .ref m8, .ref m9, .ref m10, .ref m11, .ref m12, .ref m13, .int mwh, .int mps, .ref m14, .ref m15, .long mlr, .int (nI mlt), .int (nI mlm), .ref m16, .int mln, .ref m17])), (m1, .inl (cI, 8, .inl mp)), (m2, .inl (cI, 8, .inl mq)), (m7, .inl (cI, 30, .inl gtr))]) [0, 1, 2, 3] rfl
        have hD9 := hD.sub (ws' := [(m0, .inr (9, [.int mth, .int (nI mt), .ref m1, .ref m2, .int mf, .int (nI mcd), .ref m3, .ref m4, .ref m5, .ref m6, .int (nI mev), .ref m7, .ref m8, .ref m9, .ref m10, .ref m11, .ref m12, .ref m13, .int mwh, .int mps, .ref m14, .ref m15, .long mlr, .int (nI mlt), .int (nI mlm), .ref m16, .int mln, .ref m17])), (m1, .inl (cI, 8, .inl mp)), (m2, .inl (cI, 8, .inl mq)), (m7, .inl (cI, 30, .inl gtr))]) [0, 1, 2, 3] (by decide) rfl
        subst hQ
        exact W.iret (v := v) hx hb hr (fun t9 ht9 hW => ⟨⟨v, (), rfl, trivial, by rw [ht9]; exact hP9, hD9⟩, hS.F ht9⟩) hS.2.2 d_Mo_markingOf_66
      · skip
        replace hb2 := cv_nle (a := mev) (b := i) (by omega) (by omega) hb2
        refine lv_lload_n hx hb d_Mo_markingOf_17 rfl (lv_at hl 1 rfl) ?_
        refine lv_iload hx hb d_Mo_markingOf_18 (lv_at hl 3 rfl) ?_
        have hPc : va_P (dC, dI) clA [] _ := pu_P (H := H)
        have hDc : va_D (fun _ => True) [] := pu_D
        have hFc := pu_free hS hA
        refine va_calli (va_runS (As := [.long x, .int (nI i)]) (rest := []) ⟨hx, hb, hml, hown, ht⟩ (c_Mo_has l dC dI cI cL cZ _ x i (by first | assumption | omega | trivial | exact AllLt.zero | exact AllN.zero | exact AllM.zero | exact Or.inl rfl | exact Or.inr rfl)) (va_cwS 2 ht (good_S wd_4_121 wd_4_122 wd_1_10 wd_4_123) rfl rfl rfl (by decide +kernel) ⟨Nat.le_of_ble_eq_true rfl, Nat.le_of_ble_eq_true rfl⟩) ⟨fun a U g mk q => by obtain ⟨q0, q1, qP, qK, qD, qN⟩ := q; exact ⟨q0, q1, qP, va_K.moved (u := U) (U := U.calling g mk a) (Vm.Alike.refl U.vm) qK, qD, NwA.same (u := U) rfl qN⟩, fun U hU hW => ⟨rfl, by rw [hU], by rw [hU]; exact hPc, va_K.moved hW.alike hK, hDc.weaken (fun _ _ _ _ => trivial), NwA.warm hW hN⟩⟩ rfl rfl hl.1 rfl (lv_room (Nat.le_of_ble_eq_true rfl)) d_Mo_markingOf_20 ⟨Nat.le_of_ble_eq_true rfl, Nat.le_of_ble_eq_true rfl⟩) hS (fun q _ h => hFc q h) hFc (fun r5 u9 t9 H3 locs ht9 hvm hw4 hB hz1 hk1 hSn => ?_)
        replace hP : va_P (dC, dI) clA [(m0, .inr (9, [.int mth, .int (nI mt), .ref m1, .ref m2, .int mf, .int (nI mcd), .ref m3, .ref m4, .ref m5, .ref m6, .int (nI mev), .ref m7, .ref m8, .ref m9, .ref m10, .ref m11, .ref m12, .ref m13, .int mwh, .int mps, .ref m14, .ref m15, .long mlr, .int (nI mlt), .int (nI mlm), .ref m16, .int mln, .ref m17])), (m1, .inl (cI, 8, .inl mp)), (m2, .inl (cI, 8, .inl mq)), (m7, .inl (cI, 30, .inl gtr))] H3 := pu_keep hP hk1
        replace hS := hSn
        clear hSn hPc hDc hFc hk1 hz1 ht9 hvm hB
        refine W.cs (cells' := 0) (slots' := 0) rfl rfl ?_
        subst hw4
        refine lv_if_eq (tgt := 57) hx hb d_Mo_markingOf_23 (by decide) (fun hb6 => ?_) (fun hb6 => ?_)
        · skip
          refine lv_iload_n hx hb d_Mo_markingOf_57 rfl (lv_at hl 2 rfl) ?_
          refine lv_istore_n (lv' := [(3, .int v), (0, .ref m0), (1, .long x), (4, .int (nI i))]) hx hb d_Mo_markingOf_58 rfl hl (by decide) rfl (fun ls hln => ?_)
          replace hl : lv_has ls 5 [(3, .int v), (0, .ref m0), (1, .long x), (4, .int (nI i))] := hln
          clear hln
          refine lv_iinc (k := 3) (v := nI (i + 1)) (lv' := [(4, .int (nI (i + 1))), (3, .int v), (0, .ref m0), (1, .long x)]) hx hb d_Mo_markingOf_59 hl rfl (nI_1 _) (by decide) rfl (fun ls hln => ?_)
          replace hl : lv_has ls 5 [(4, .int (nI (i + 1))), (3, .int v), (0, .ref m0), (1, .long x)] := hln
          clear hln
          refine lv_goto (tgt := 8) hx hb d_Mo_markingOf_62 (by decide) ?_
          exact hloop1_ih v (i + 1) (by first | assumption | omega | trivial | exact AllLt.zero | exact AllN.zero | exact AllM.zero | exact Or.inl rfl | exact Or.inr rfl) _ _ ls (lv_sub hl [2, 3, 1, 0] rfl) (hP.sub [0, 1, 2, 3] rfl) (hD.sub [0, 1, 2, 3] (by decide) rfl) hS (by omega)
        · skip
          refine lv_iload_n hx hb d_Mo_markingOf_26 rfl (lv_at hl 2 rfl) ?_
          refine lv_aload_n hx hb d_Mo_markingOf_27 rfl (lv_at hl 0 rfl) ?_
          refine va_get (D := (dC, dI)) (ci := 9) (v := .ref m1) (C := "NetUnfolderModel") (T := T_Mo) (N := 28) hx hb ht in_Mo hown hK hP 0 rfl rfl 2 (by decide) (ht _ wd_4_2) (fun _ h9 => h9) rfl d_Mo_markingOf_28 ?_
          refine lv_aload_n hx hb d_Mo_markingOf_31 rfl (lv_at hl 0 rfl) ?_
          refine va_get (D := (dC, dI)) (ci := 9) (v := .ref m7) (C := "NetUnfolderModel") (T := T_Mo) (N := 28) hx hb ht in_Mo hown hK hP 0 rfl rfl 11 (by decide) (ht _ wd_4_11) (fun _ h9 => h9) rfl d_Mo_markingOf_32 ?_
          refine lv_iload hx hb d_Mo_markingOf_35 (lv_at hl 3 rfl) ?_
          refine na_iald (k := i) hx hb hK hP 3 0 rfl rfl (by omega) (by decide) d_Mo_markingOf_37 ?_
          obtain ⟨q7, hq8, eq9⟩ := hgtr (i) (by omega)
          refine ci_i (y := nI q7) eq9 ?_
          refine na_iald (k := q7) hx hb hK hP 1 0 rfl rfl (by omega) (by decide) d_Mo_markingOf_38 ?_
          refine lv_aload_n hx hb d_Mo_markingOf_39 rfl (lv_at hl 0 rfl) ?_
          refine va_get (D := (dC, dI)) (ci := 9) (v := .ref m2) (C := "NetUnfolderModel") (T := T_Mo) (N := 28) hx hb ht in_Mo hown hK hP 0 rfl rfl 3 (by decide) (ht _ wd_4_3) (fun _ h9 => h9) rfl d_Mo_markingOf_40 ?_
          refine lv_aload_n hx hb d_Mo_markingOf_43 rfl (lv_at hl 0 rfl) ?_
          refine va_get (D := (dC, dI)) (ci := 9) (v := .ref m7) (C := "NetUnfolderModel") (T := T_Mo) (N := 28) hx hb ht in_Mo hown hK hP 0 rfl rfl 11 (by decide) (ht _ wd_4_11) (fun _ h9 => h9) rfl d_Mo_markingOf_44 ?_
          refine lv_iload hx hb d_Mo_markingOf_47 (lv_at hl 3 rfl) ?_
          refine na_iald (k := i) hx hb hK hP 3 0 rfl rfl (by omega) (by decide) d_Mo_markingOf_49 ?_
          obtain ⟨q10, hq11, eq12⟩ := hgtr (i) (by omega)
          refine ci_i (y := nI q10) eq12 ?_
          refine na_iald (k := q10) hx hb hK hP 2 0 rfl rfl (by omega) (by decide) d_Mo_markingOf_50 ?_
          have hPc : va_P (dC, dI) clA [] _ := pu_P (H := H3)
          have hDc : va_D (fun _ => True) [] := pu_D
          have hFc := pu_free hS hA
          refine va_calli (va_runS (As := [.int v, .int (mp q7), .int (mq q10)]) (rest := []) ⟨hx, hb, hml, hown, ht⟩ (c_Mo_fire l dC dI cI cL cZ _ v (mp q7) (mq q10) ) (va_cwS 3 ht (good_S wd_4_185 wd_4_186 wd_1_10 wd_4_187) rfl rfl rfl (by decide +kernel) ⟨Nat.le_of_ble_eq_true rfl, Nat.le_of_ble_eq_true rfl⟩) ⟨fun a U g mk q => by obtain ⟨q0, q1, qP, qK, qD, qN⟩ := q; exact ⟨q0, q1, qP, va_K.moved (u := U) (U := U.calling g mk a) (Vm.Alike.refl U.vm) qK, qD, NwA.same (u := U) rfl qN⟩, fun U hU hW => ⟨rfl, by rw [hU], by rw [hU]; exact hPc, va_K.moved hW.alike hK, hDc.weaken (fun _ _ _ _ => trivial), NwA.warm hW hN⟩⟩ rfl rfl hl.1 rfl (lv_room (Nat.le_of_ble_eq_true rfl)) d_Mo_markingOf_51 ⟨Nat.le_of_ble_eq_true rfl, Nat.le_of_ble_eq_true rfl⟩) hS (fun q _ h => hFc q h) hFc (fun r15 u9 t9 H13 locs ht9 hvm hw14 hB hz1 hk1 hSn => ?_)
          replace hP : va_P (dC, dI) clA [(m0, .inr (9, [.int mth, .int (nI mt), .ref m1, .ref m2, .int mf, .int (nI mcd), .ref m3, .ref m4, .ref m5, .ref m6, .int (nI mev), .ref m7, .ref m8, .ref m9, .ref m10, .ref m11, .ref m12, .ref m13, .int mwh, .int mps, .ref m14, .ref m15, .long mlr, .int (nI mlt), .int (nI mlm), .ref m16, .int mln, .ref m17])), (m1, .inl (cI, 8, .inl mp)), (m2, .inl (cI, 8, .inl mq)), (m7, .inl (cI, 30, .inl gtr))] H13 := pu_keep hP hk1
          replace hS := hSn
          clear hSn hPc hDc hFc hk1 hz1 ht9 hvm hB
          refine W.cs (cells' := 0) (slots' := 0) rfl rfl ?_
          refine lv_goto (tgt := 58) hx hb d_Mo_markingOf_54 (by decide) ?_
          refine lv_istore_n (lv' := [(3, .int r15), (0, .ref m0), (1, .long x), (4, .int (nI i))]) hx hb d_Mo_markingOf_58 rfl hl (by decide) rfl (fun ls hln => ?_)
          replace hl : lv_has ls 5 [(3, .int r15), (0, .ref m0), (1, .long x), (4, .int (nI i))] := hln
          clear hln
          refine lv_iinc (k := 3) (v := nI (i + 1)) (lv' := [(4, .int (nI (i + 1))), (3, .int r15), (0, .ref m0), (1, .long x)]) hx hb d_Mo_markingOf_59 hl rfl (nI_1 _) (by decide) rfl (fun ls hln => ?_)
          replace hl : lv_has ls 5 [(4, .int (nI (i + 1))), (3, .int r15), (0, .ref m0), (1, .long x)] := hln
          clear hln
          refine lv_goto (tgt := 8) hx hb d_Mo_markingOf_62 (by decide) ?_
          exact hloop1_ih r15 (i + 1) (by first | assumption | omega | trivial | exact AllLt.zero | exact AllN.zero | exact AllM.zero | exact Or.inl rfl | exact Or.inr rfl) _ _ ls (lv_sub hl [2, 3, 1, 0] rfl) (hP.sub [0, 1, 2, 3] rfl) (hD.sub [0, 1, 2, 3] (by decide) rfl) hS (by omega)
  exact hloop1 ((mev - 0) + 1) mf 0 (by first | assumption | omega | trivial | exact AllLt.zero | exact AllN.zero | exact AllM.zero | exact Or.inl rfl | exact Or.inr rfl) _ _ ls (lv_sub hl [2, 3, 1, 0] rfl) hP hD hS (Nat.lt_succ_self _)

set_option maxHeartbeats 4000000 in
set_option maxRecDepth 100000 in
theorem c_Mo_takenBy (l : Launch) (dC : Nat → ClassId) (dI : Nat → Nat → Nat) (cI cL cZ : ClassId) (sz : Nat) (m0 : Nat) (m1 : Nat) (m2 : Nat) (m3 : Nat) (m4 : Nat) (m5 : Nat) (m6 : Nat) (m7 : Nat) (m8 : Nat) (m9 : Nat) (m10 : Nat) (m11 : Nat) (m12 : Nat) (m13 : Nat) (m14 : Nat) (m15 : Nat) (m16 : Nat) (m17 : Nat) (mth : Int32) (mt : Nat) (mf : Int32) (mcd : Nat) (mev : Nat) (mwh : Int32) (mps : Int32) (mlr : Int64) (mlt : Nat) (mlm : Nat) (mln : Int32) (gtn : Nat → Int64) (x : Int64) (hev : mev ≤ 30) : Met l y_Mo_takenBy (Cond.code y_Mo_takenBy prog_11_method_10_code 6 (some .long) :: wsA) { frames := 1, cells := 0, slots := 0, locals := 22 } (va_Pc [.ref m0, .long x] (fun U => U.heap.size = sz ∧ va_P (dC, dI) clA [(m0, .inr (9, [.int mth, .int (nI mt), .ref m1, .ref m2, .int mf, .int (nI mcd), .ref m3, .ref m4, .ref m5, .ref m6, .int (nI mev), .ref m7, .ref m8, .ref m9, .ref m10, .ref m11, .ref m12, .ref m13, .int mwh, .int mps, .ref m14, .ref m15, .long mlr, .int (nI mlt), .int (nI mlm), .ref m16, .int mln, .ref m17])), (m9, .inl (cL, 30, .inr (.inl gtn)))] U.heap ∧ va_K (dC, dI) clA [(cI, .int), (cL, .long), (cZ, .boolean)] U ∧ va_D (fun _ => True) [(m0, .inr (9, [.int mth, .int (nI mt), .ref m1, .ref m2, .int mf, .int (nI mcd), .ref m3, .ref m4, .ref m5, .ref m6, .int (nI mev), .ref m7, .ref m8, .ref m9, .ref m10, .ref m11, .ref m12, .ref m13, .int mwh, .int mps, .ref m14, .ref m15, .long mlr, .int (nI mlt), .int (nI mlm), .ref m16, .int mln, .ref m17])), (m9, .inl (cL, 30, .inr (.inl gtn)))] ∧ NwA U)) (va_Ql (fun r (_ : Unit) => True) (fun _ t => va_P (dC, dI) clA [(m0, .inr (9, [.int mth, .int (nI mt), .ref m1, .ref m2, .int mf, .int (nI mcd), .ref m3, .ref m4, .ref m5, .ref m6, .int (nI mev), .ref m7, .ref m8, .ref m9, .ref m10, .ref m11, .ref m12, .ref m13, .int mwh, .int mps, .ref m14, .ref m15, .long mlr, .int (nI mlt), .int (nI mlm), .ref m16, .int mln, .ref m17])), (m9, .inl (cL, 30, .inr (.inl gtn)))] t.heap ∧ va_D (va_A [(m0, .inr (9, [.int mth, .int (nI mt), .ref m1, .ref m2, .int mf, .int (nI mcd), .ref m3, .ref m4, .ref m5, .ref m6, .int (nI mev), .ref m7, .ref m8, .ref m9, .ref m10, .ref m11, .ref m12, .ref m13, .int mwh, .int mps, .ref m14, .ref m15, .long mlr, .int (nI mlt), .int (nI mlm), .ref m16, .int mln, .ref m17])), (m9, .inl (cL, 30, .inr (.inl gtn)))] sz) [(m0, .inr (9, [.int mth, .int (nI mt), .ref m1, .ref m2, .int mf, .int (nI mcd), .ref m3, .ref m4, .ref m5, .ref m6, .int (nI mev), .ref m7, .ref m8, .ref m9, .ref m10, .ref m11, .ref m12, .ref m13, .int mwh, .int mps, .ref m14, .ref m15, .long mlr, .int (nI mlt), .int (nI mlm), .ref m16, .int mln, .ref m17])), (m9, .inl (cL, 30, .inr (.inl gtn)))]) (va_A [(m0, .inr (9, [.int mth, .int (nI mt), .ref m1, .ref m2, .int mf, .int (nI mcd), .ref m3, .ref m4, .ref m5, .ref m6, .int (nI mev), .ref m7, .ref m8, .ref m9, .ref m10, .ref m11, .ref m12, .ref m13, .int mwh, .int mps, .ref m14, .ref m15, .long mlr, .int (nI mlt), .int (nI mlm), .ref m16, .int mln, .ref m17])), (m9, .inl (cL, 30, .inr (.inl gtn)))] sz)) 0 0 (va_A [(m0, .inr (9, [.int mth, .int (nI mt), .ref m1, .ref m2, .int mf, .int (nI mcd), .ref m3, .ref m4, .ref m5, .ref m6, .int (nI mev), .ref m7, .ref m8, .ref m9, .ref m10, .ref m11, .ref m12, .ref m13, .int mwh, .int mps, .ref m14, .ref m15, .long mlr, .int (nI mlt), .int (nI mlm), .ref m16, .int mln, .ref m17])), (m9, .inl (cL, 30, .inr (.inl gtn)))] sz) := by
  refine Met.ofW (cc := prog_11_method_10_code) (maxL := 6) (ret := (some .long)) (by decide) rfl ?_
  intro p e s m args below meth c s₁ B hml hv
  obtain ⟨rfl, hsz, hP, hK, hD0, hN⟩ := hv
  have hx := B.exec
  have hb := B.bytes
  have hr := B.returns
  have ht : ∀ w ∈ wsA, w.before _ s = true := fun w h => atoms_spec (ws := (Cond.code y_Mo_takenBy prog_11_method_10_code 6 (some .long) :: wsA)) B.pre w (List.mem_cons_of_mem _ h)
  have hown : s.vm.findClass "NetUnfolderModel" = some m.cls := findClass_of_methodNamed B.named
  have hlocks := B.notSynchronized
  subst hsz
  have hD := hD0.self (sz := s.heap.size)
  generalize hAe : va_A [(m0, .inr (9, [.int mth, .int (nI mt), .ref m1, .ref m2, .int mf, .int (nI mcd), .ref m3, .ref m4, .ref m5, .ref m6, .int (nI mev), .ref m7, .ref m8, .ref m9, .ref m10, .ref m11, .ref m12, .ref m13, .int mwh, .int mps, .ref m14, .ref m15, .long mlr, .int (nI mlt), .int (nI mlm), .ref m16, .int mln, .ref m17])), (m9, .inl (cL, 30, .inr (.inl gtn)))] s.heap.size = A at hD ⊢
  have hA : ∀ q : Nat, s.heap.size ≤ q → A q := fun q h => by rw [← hAe]; exact Or.inr h
  have hS : va_S A s.heap s.heap [] := va_S.rf
  have hl := lv_entry ([.ref m0, .long x]) (n := 6) (Nat.le_of_ble_eq_true rfl)
  rw [lg_entry_eq]
  generalize (lg_sl ([.ref m0, .long x]) ++ List.replicate (6 - (lg_sl ([.ref m0, .long x])).length) Slot.unset).toArray = ls at hl ⊢
  replace hl : lv_has ls 6 [(0, .ref m0), (1, .long x)] := hl
  refine W_Q (fun Q hQ => ?_)
  refine lv_lconst (v := 0) hx hb d_Mo_takenBy_0 (by decide) ?_
  refine lv_lstore_n (lv' := [(3, .long 0), (0, .ref m0), (1, .long x)]) hx hb d_Mo_takenBy_1 rfl hl (by decide) rfl (fun ls hln => ?_)
  replace hl : lv_has ls 6 [(3, .long 0), (0, .ref m0), (1, .long x)] := hln
  clear hln
  refine lv_iconst (v := 0) hx hb d_Mo_takenBy_2 (by decide) ?_
  refine lv_istore (lv' := [(5, .int 0), (3, .long 0), (0, .ref m0), (1, .long x)]) hx hb d_Mo_takenBy_3 hl (by decide) rfl (fun ls hln => ?_)
  replace hl : lv_has ls 6 [(5, .int 0), (3, .long 0), (0, .ref m0), (1, .long x)] := hln
  clear hln
  have hloop1 : ∀ (n5 : Nat) (v : Int64) (i : Nat) (hi : i ≤ mev) (H : Heap) (locs : List Loc) (ls : Array Slot) (hl : lv_has ls 6 [(0, .ref m0), (1, .long x), (3, .long v), (5, .int (nI i))]) (hP : va_P (dC, dI) clA [(m0, .inr (9, [.int mth, .int (nI mt), .ref m1, .ref m2, .int mf, .int (nI mcd), .ref m3, .ref m4, .ref m5, .ref m6, .int (nI mev), .ref m7, .ref m8, .ref m9, .ref m10, .ref m11, .ref m12, .ref m13, .int mwh, .int mps, .ref m14, .ref m15, .long mlr, .int (nI mlt), .int (nI mlm), .ref m16, .int mln, .ref m17])), (m9, .inl (cL, 30, .inr (.inl gtn)))] H) (hD : va_D A [(m0, .inr (9, [.int mth, .int (nI mt), .ref m1, .ref m2, .int mf, .int (nI mcd), .ref m3, .ref m4, .ref m5, .ref m6, .int (nI mev), .ref m7, .ref m8, .ref m9, .ref m10, .ref m11, .ref m12, .ref m13, .int mwh, .int mps, .ref m14, .ref m15, .long mlr, .int (nI mlt), .int (nI mlm), .ref m16, .int mln, .ref m17])), (m9, .inl (cL, 30, .inr (.inl gtn)))]) (hS : va_S A s.heap H locs) (hm5 : mev - i < n5), W p l e (headSpec (Cond.code y_Mo_takenBy prog_11_method_10_code 6 (some .long) :: wsA) { frames := 1, cells := 0, slots := 0, locals := 22 }).room s m ([.ref m0, .long x] : List Value).toArray below meth c H locs 0 0 Q (F0 m 5 ls []) := by
    clear hl hP hD hS
    intro n5
    induction n5 with
    | zero => intro v i hi H locs ls hl hP hD hS hm; exact absurd hm (Nat.not_lt_zero _)
    | succ n5 hloop1_ih =>
      intro v i hi H locs ls hl hP hD hS hm5
      refine lv_iload hx hb d_Mo_takenBy_5 (lv_at hl 3 rfl) ?_
      refine lv_aload_n hx hb d_Mo_takenBy_7 rfl (lv_at hl 0 rfl) ?_
      refine va_get (D := (dC, dI)) (ci := 9) (v := .int (nI mev)) (C := "NetUnfolderModel") (T := T_Mo) (N := 28) hx hb ht in_Mo hown hK hP 0 rfl rfl 10 (by decide) (ht _ wd_4_10) (fun _ h9 => h9) rfl d_Mo_takenBy_8 ?_
      refine lv_icmp_ge (tgt := 60) hx hb d_Mo_takenBy_11 (by decide) (fun hb2 => ?_) (fun hb2 => ?_)
      · skip
        replace hb2 := cv_le (a := mev) (b := i) (by omega) (by omega) hb2
        refine lv_lload_n hx hb d_Mo_takenBy_60 rfl (lv_at hl 2 rfl) ?_
        have hP9 := hP.sub (ws' := [(m0, .inr (9, [.int mth, .int (nI mt), .ref m1, .ref m2, .int mf, .int (nI mcd), .ref m3, .ref m4, .ref m5, .ref m6, .int (nI mev), .ref m7, .ref m8, .ref m9, .ref m10, .ref m11, .ref m12, .ref m13, .int mwh, .int mps, .ref m14, .ref m15, .long mlr, .int (nI mlt), .int (nI mlm), .ref m16, .int mln, .ref m17])), (m9, .inl (cL, 30, .inr (.inl gtn)))]) [0, 1] rfl
        have hD9 := hD.sub (ws' := [(m0, .inr (9, [.int mth, .int (nI mt), .ref m1, .ref m2, .int mf, .int (nI mcd), .ref m3, .ref m4, .ref m5, .ref m6, .int (nI mev), .ref m7, .ref m8, .ref m9, .ref m10, .ref m11, .ref m12, .ref m13, .int mwh, .int mps, .ref m14, .ref m15, .long mlr, .int (nI mlt), .int (nI mlm), .ref m16, .int mln, .ref m17])), (m9, .inl (cL, 30, .inr (.inl gtn)))]) [0, 1] (by decide) rfl
        subst hQ
        exact W.lret (v := v) hx hb hr (fun t9 ht9 hW => ⟨⟨v, (), rfl, trivial, by rw [ht9]; exact hP9, hD9⟩, hS.F ht9⟩) hS.2.2 d_Mo_takenBy_61
      · skip
        replace hb2 := cv_nle (a := mev) (b := i) (by omega) (by omega) hb2
        refine lv_lload_n hx hb d_Mo_takenBy_14 rfl (lv_at hl 1 rfl) ?_
        refine lv_iload hx hb d_Mo_takenBy_15 (lv_at hl 3 rfl) ?_
        have hPc : va_P (dC, dI) clA [] _ := pu_P (H := H)
        have hDc : va_D (fun _ => True) [] := pu_D
        have hFc := pu_free hS hA
        refine va_calli (va_runS (As := [.long x, .int (nI i)]) (rest := []) ⟨hx, hb, hml, hown, ht⟩ (c_Mo_has l dC dI cI cL cZ _ x i (by first | assumption | omega | trivial | exact AllLt.zero | exact AllN.zero | exact AllM.zero | exact Or.inl rfl | exact Or.inr rfl)) (va_cwS 2 ht (good_S wd_4_121 wd_4_122 wd_1_10 wd_4_123) rfl rfl rfl (by decide +kernel) ⟨Nat.le_of_ble_eq_true rfl, Nat.le_of_ble_eq_true rfl⟩) ⟨fun a U g mk q => by obtain ⟨q0, q1, qP, qK, qD, qN⟩ := q; exact ⟨q0, q1, qP, va_K.moved (u := U) (U := U.calling g mk a) (Vm.Alike.refl U.vm) qK, qD, NwA.same (u := U) rfl qN⟩, fun U hU hW => ⟨rfl, by rw [hU], by rw [hU]; exact hPc, va_K.moved hW.alike hK, hDc.weaken (fun _ _ _ _ => trivial), NwA.warm hW hN⟩⟩ rfl rfl hl.1 rfl (lv_room (Nat.le_of_ble_eq_true rfl)) d_Mo_takenBy_17 ⟨Nat.le_of_ble_eq_true rfl, Nat.le_of_ble_eq_true rfl⟩) hS (fun q _ h => hFc q h) hFc (fun r5 u9 t9 H3 locs ht9 hvm hw4 hB hz1 hk1 hSn => ?_)
        replace hP : va_P (dC, dI) clA [(m0, .inr (9, [.int mth, .int (nI mt), .ref m1, .ref m2, .int mf, .int (nI mcd), .ref m3, .ref m4, .ref m5, .ref m6, .int (nI mev), .ref m7, .ref m8, .ref m9, .ref m10, .ref m11, .ref m12, .ref m13, .int mwh, .int mps, .ref m14, .ref m15, .long mlr, .int (nI mlt), .int (nI mlm), .ref m16, .int mln, .ref m17])), (m9, .inl (cL, 30, .inr (.inl gtn)))] H3 := pu_keep hP hk1
        replace hS := hSn
        clear hSn hPc hDc hFc hk1 hz1 ht9 hvm hB
        refine W.cs (cells' := 0) (slots' := 0) rfl rfl ?_
        subst hw4
        refine lv_if_ne (tgt := 26) hx hb d_Mo_takenBy_20 (by decide) (fun hb6 => ?_) (fun hb6 => ?_)
        · skip
          refine lv_lload_n hx hb d_Mo_takenBy_26 rfl (lv_at hl 2 rfl) ?_
          refine lv_aload_n hx hb d_Mo_takenBy_27 rfl (lv_at hl 0 rfl) ?_
          refine va_get (D := (dC, dI)) (ci := 9) (v := .ref m9) (C := "NetUnfolderModel") (T := T_Mo) (N := 28) hx hb ht in_Mo hown hK hP 0 rfl rfl 13 (by decide) (ht _ wd_4_13) (fun _ h9 => h9) rfl d_Mo_takenBy_28 ?_
          refine lv_iload hx hb d_Mo_takenBy_31 (lv_at hl 3 rfl) ?_
          refine na_lald (k := i) hx hb hK hP 1 1 rfl rfl (by omega) (by decide) d_Mo_takenBy_33 ?_
          refine lv_land hx hb d_Mo_takenBy_34 ?_
          refine lv_lconst (v := 0) hx hb d_Mo_takenBy_35 (by decide) ?_
          refine W.lcmp hx hb d_Mo_takenBy_36 ?_
          refine lv_if_eq (tgt := 44) hx hb d_Mo_takenBy_37 (by decide) (fun hb7 => ?_) (fun hb7 => ?_)
          · skip
            refine lv_lload_n hx hb d_Mo_takenBy_44 rfl (lv_at hl 2 rfl) ?_
            refine lv_aload_n hx hb d_Mo_takenBy_45 rfl (lv_at hl 0 rfl) ?_
            refine va_get (D := (dC, dI)) (ci := 9) (v := .ref m9) (C := "NetUnfolderModel") (T := T_Mo) (N := 28) hx hb ht in_Mo hown hK hP 0 rfl rfl 13 (by decide) (ht _ wd_4_13) (fun _ h9 => h9) rfl d_Mo_takenBy_46 ?_
            refine lv_iload hx hb d_Mo_takenBy_49 (lv_at hl 3 rfl) ?_
            refine na_lald (k := i) hx hb hK hP 1 1 rfl rfl (by omega) (by decide) d_Mo_takenBy_51 ?_
            refine lv_lor hx hb d_Mo_takenBy_52 ?_
            refine lv_lstore_n (lv' := [(3, .long (v ||| (gtn i))), (0, .ref m0), (1, .long x), (5, .int (nI i))]) hx hb d_Mo_takenBy_53 rfl hl (by decide) rfl (fun ls hln => ?_)
            replace hl : lv_has ls 6 [(3, .long (v ||| (gtn i))), (0, .ref m0), (1, .long x), (5, .int (nI i))] := hln
            clear hln
            refine lv_iinc (k := 3) (v := nI (i + 1)) (lv' := [(5, .int (nI (i + 1))), (3, .long (v ||| (gtn i))), (0, .ref m0), (1, .long x)]) hx hb d_Mo_takenBy_54 hl rfl (nI_1 _) (by decide) rfl (fun ls hln => ?_)
            replace hl : lv_has ls 6 [(5, .int (nI (i + 1))), (3, .long (v ||| (gtn i))), (0, .ref m0), (1, .long x)] := hln
            clear hln
            refine lv_goto (tgt := 5) hx hb d_Mo_takenBy_57 (by decide) ?_
            exact hloop1_ih (v ||| (gtn i)) (i + 1) (by first | assumption | omega | trivial | exact AllLt.zero | exact AllN.zero | exact AllM.zero | exact Or.inl rfl | exact Or.inr rfl) _ _ ls (lv_sub hl [2, 3, 1, 0] rfl) (hP.sub [0, 1] rfl) (hD.sub [0, 1] (by decide) rfl) hS (by omega)
          · skip
            refine lv_ldc2 hx hb hown (ht _ wd_4_124) d_Mo_takenBy_40 ?_
            have hP9 := hP.sub (ws' := [(m0, .inr (9, [.int mth, .int (nI mt), .ref m1, .ref m2, .int mf, .int (nI mcd), .ref m3, .ref m4, .ref m5, .ref m6, .int (nI mev), .ref m7, .ref m8, .ref m9, .ref m10, .ref m11, .ref m12, .ref m13, .int mwh, .int mps, .ref m14, .ref m15, .long mlr, .int (nI mlt), .int (nI mlm), .ref m16, .int mln, .ref m17])), (m9, .inl (cL, 30, .inr (.inl gtn)))]) [0, 1] rfl
            have hD9 := hD.sub (ws' := [(m0, .inr (9, [.int mth, .int (nI mt), .ref m1, .ref m2, .int mf, .int (nI mcd), .ref m3, .ref m4, .ref m5, .ref m6, .int (nI mev), .ref m7, .ref m8, .ref m9, .ref m10, .ref m11, .ref m12, .ref m13, .int mwh, .int mps, .ref m14, .ref m15, .long mlr, .int (nI mlt), .int (nI mlm), .ref m16, .int mln, .ref m17])), (m9, .inl (cL, 30, .inr (.inl gtn)))]) [0, 1] (by decide) rfl
            subst hQ
            exact W.lret (v := (-1)) hx hb hr (fun t9 ht9 hW => ⟨⟨(-1), (), rfl, trivial, by rw [ht9]; exact hP9, hD9⟩, hS.F ht9⟩) hS.2.2 d_Mo_takenBy_43
        · skip
          refine lv_goto (tgt := 54) hx hb d_Mo_takenBy_23 (by decide) ?_
          refine lv_iinc (k := 3) (v := nI (i + 1)) (lv' := [(5, .int (nI (i + 1))), (0, .ref m0), (1, .long x), (3, .long v)]) hx hb d_Mo_takenBy_54 hl rfl (nI_1 _) (by decide) rfl (fun ls hln => ?_)
          replace hl : lv_has ls 6 [(5, .int (nI (i + 1))), (0, .ref m0), (1, .long x), (3, .long v)] := hln
          clear hln
          refine lv_goto (tgt := 5) hx hb d_Mo_takenBy_57 (by decide) ?_
          exact hloop1_ih v (i + 1) (by first | assumption | omega | trivial | exact AllLt.zero | exact AllN.zero | exact AllM.zero | exact Or.inl rfl | exact Or.inr rfl) _ _ ls (lv_sub hl [1, 2, 3, 0] rfl) (hP.sub [0, 1] rfl) (hD.sub [0, 1] (by decide) rfl) hS (by omega)
  exact hloop1 ((mev - 0) + 1) 0 0 (by first | assumption | omega | trivial | exact AllLt.zero | exact AllN.zero | exact AllM.zero | exact Or.inl rfl | exact Or.inr rfl) _ _ ls (lv_sub hl [2, 3, 1, 0] rfl) hP hD hS (Nat.lt_succ_self _)

set_option maxHeartbeats 4000000 in
set_option maxRecDepth 100000 in
theorem c_Mo_further (l : Launch) (dC : Nat → ClassId) (dI : Nat → Nat → Nat) (cI cL cZ : ClassId) (sz : Nat) (m0 : Nat) (m1 : Nat) (m2 : Nat) (m3 : Nat) (m4 : Nat) (m5 : Nat) (m6 : Nat) (m7 : Nat) (m8 : Nat) (m9 : Nat) (m10 : Nat) (m11 : Nat) (m12 : Nat) (m13 : Nat) (m14 : Nat) (m15 : Nat) (m16 : Nat) (m17 : Nat) (mth : Int32) (mt : Nat) (mf : Int32) (mcd : Nat) (mev : Nat) (mwh : Int32) (mps : Int32) (mlr : Int64) (mlt : Nat) (mlm : Nat) (mln : Int32) (gpl : Nat → Int32) (x : Int32) (y : Int32) (z : Int64) (hcd : mcd ≤ 60) (hxq : x = -1 ∨ ∃ j, j < 60 ∧ x = nI j) : Met l y_Mo_further (Cond.code y_Mo_further prog_11_method_20_code 6 (some .int) :: wsA) { frames := 1, cells := 0, slots := 0, locals := 22 } (va_Pc [.ref m0, .int x, .int y, .long z] (fun U => U.heap.size = sz ∧ va_P (dC, dI) clA [(m0, .inr (9, [.int mth, .int (nI mt), .ref m1, .ref m2, .int mf, .int (nI mcd), .ref m3, .ref m4, .ref m5, .ref m6, .int (nI mev), .ref m7, .ref m8, .ref m9, .ref m10, .ref m11, .ref m12, .ref m13, .int mwh, .int mps, .ref m14, .ref m15, .long mlr, .int (nI mlt), .int (nI mlm), .ref m16, .int mln, .ref m17])), (m3, .inl (cI, 60, .inl gpl))] U.heap ∧ va_K (dC, dI) clA [(cI, .int), (cL, .long), (cZ, .boolean)] U ∧ va_D (fun _ => True) [(m0, .inr (9, [.int mth, .int (nI mt), .ref m1, .ref m2, .int mf, .int (nI mcd), .ref m3, .ref m4, .ref m5, .ref m6, .int (nI mev), .ref m7, .ref m8, .ref m9, .ref m10, .ref m11, .ref m12, .ref m13, .int mwh, .int mps, .ref m14, .ref m15, .long mlr, .int (nI mlt), .int (nI mlm), .ref m16, .int mln, .ref m17])), (m3, .inl (cI, 60, .inl gpl))] ∧ NwA U)) (va_Qi (fun r (_ : Unit) => (r = -1 ∨ ∃ j, j < 60 ∧ gof x < j + 1 ∧ r = nI j)) (fun _ t => va_P (dC, dI) clA [(m0, .inr (9, [.int mth, .int (nI mt), .ref m1, .ref m2, .int mf, .int (nI mcd), .ref m3, .ref m4, .ref m5, .ref m6, .int (nI mev), .ref m7, .ref m8, .ref m9, .ref m10, .ref m11, .ref m12, .ref m13, .int mwh, .int mps, .ref m14, .ref m15, .long mlr, .int (nI mlt), .int (nI mlm), .ref m16, .int mln, .ref m17])), (m3, .inl (cI, 60, .inl gpl))] t.heap ∧ va_D (va_A [(m0, .inr (9, [.int mth, .int (nI mt), .ref m1, .ref m2, .int mf, .int (nI mcd), .ref m3, .ref m4, .ref m5, .ref m6, .int (nI mev), .ref m7, .ref m8, .ref m9, .ref m10, .ref m11, .ref m12, .ref m13, .int mwh, .int mps, .ref m14, .ref m15, .long mlr, .int (nI mlt), .int (nI mlm), .ref m16, .int mln, .ref m17])), (m3, .inl (cI, 60, .inl gpl))] sz) [(m0, .inr (9, [.int mth, .int (nI mt), .ref m1, .ref m2, .int mf, .int (nI mcd), .ref m3, .ref m4, .ref m5, .ref m6, .int (nI mev), .ref m7, .ref m8, .ref m9, .ref m10, .ref m11, .ref m12, .ref m13, .int mwh, .int mps, .ref m14, .ref m15, .long mlr, .int (nI mlt), .int (nI mlm), .ref m16, .int mln, .ref m17])), (m3, .inl (cI, 60, .inl gpl))]) (va_A [(m0, .inr (9, [.int mth, .int (nI mt), .ref m1, .ref m2, .int mf, .int (nI mcd), .ref m3, .ref m4, .ref m5, .ref m6, .int (nI mev), .ref m7, .ref m8, .ref m9, .ref m10, .ref m11, .ref m12, .ref m13, .int mwh, .int mps, .ref m14, .ref m15, .long mlr, .int (nI mlt), .int (nI mlm), .ref m16, .int mln, .ref m17])), (m3, .inl (cI, 60, .inl gpl))] sz)) 0 0 (va_A [(m0, .inr (9, [.int mth, .int (nI mt), .ref m1, .ref m2, .int mf, .int (nI mcd), .ref m3, .ref m4, .ref m5, .ref m6, .int (nI mev), .ref m7, .ref m8, .ref m9, .ref m10, .ref m11, .ref m12, .ref m13, .int mwh, .int mps, .ref m14, .ref m15, .long mlr, .int (nI mlt), .int (nI mlm), .ref m16, .int mln, .ref m17])), (m3, .inl (cI, 60, .inl gpl))] sz) := by
  refine Met.ofW (cc := prog_11_method_20_code) (maxL := 6) (ret := (some .int)) (by decide) rfl ?_
  intro p e s m args below meth c s₁ B hml hv
  obtain ⟨rfl, hsz, hP, hK, hD0, hN⟩ := hv
  have hx := B.exec
  have hb := B.bytes
  have hr := B.returns
  have ht : ∀ w ∈ wsA, w.before _ s = true := fun w h => atoms_spec (ws := (Cond.code y_Mo_further prog_11_method_20_code 6 (some .int) :: wsA)) B.pre w (List.mem_cons_of_mem _ h)
  have hown : s.vm.findClass "NetUnfolderModel" = some m.cls := findClass_of_methodNamed B.named
  have hlocks := B.notSynchronized
  subst hsz
  have hD := hD0.self (sz := s.heap.size)
  generalize hAe : va_A [(m0, .inr (9, [.int mth, .int (nI mt), .ref m1, .ref m2, .int mf, .int (nI mcd), .ref m3, .ref m4, .ref m5, .ref m6, .int (nI mev), .ref m7, .ref m8, .ref m9, .ref m10, .ref m11, .ref m12, .ref m13, .int mwh, .int mps, .ref m14, .ref m15, .long mlr, .int (nI mlt), .int (nI mlm), .ref m16, .int mln, .ref m17])), (m3, .inl (cI, 60, .inl gpl))] s.heap.size = A at hD ⊢
  have hA : ∀ q : Nat, s.heap.size ≤ q → A q := fun q h => by rw [← hAe]; exact Or.inr h
  have hS : va_S A s.heap s.heap [] := va_S.rf
  have hl := lv_entry ([.ref m0, .int x, .int y, .long z]) (n := 6) (Nat.le_of_ble_eq_true rfl)
  rw [lg_entry_eq]
  generalize (lg_sl ([.ref m0, .int x, .int y, .long z]) ++ List.replicate (6 - (lg_sl ([.ref m0, .int x, .int y, .long z])).length) Slot.unset).toArray = ls at hl ⊢
  replace hl : lv_has ls 6 [(0, .ref m0), (1, .int x), (2, .int y), (3, .long z)] := hl
  refine W_Q (fun Q hQ => ?_)
  refine lv_iload_n hx hb d_Mo_further_0 rfl (lv_at hl 1 rfl) ?_
  refine lv_iconst (v := 1) hx hb d_Mo_further_1 (by decide) ?_
  refine lv_iadd hx hb d_Mo_further_2 ?_
  obtain ⟨a9, a9_l, a9_e, a9_g⟩ := fur_s hxq
  refine ci_i (y := nI a9) a9_e ?_
  refine lv_istore (lv' := [(5, .int (nI a9)), (0, .ref m0), (1, .int x), (2, .int y), (3, .long z)]) hx hb d_Mo_further_3 hl (by decide) rfl (fun ls hln => ?_)
  replace hl : lv_has ls 6 [(5, .int (nI a9)), (0, .ref m0), (1, .int x), (2, .int y), (3, .long z)] := hln
  clear hln
  have hloop1 : ∀ (n5 : Nat) (i : Nat) (hi : a9 ≤ i) (hi2 : i ≤ 60) (H : Heap) (locs : List Loc) (ls : Array Slot) (hl : lv_has ls 6 [(0, .ref m0), (1, .int x), (2, .int y), (3, .long z), (5, .int (nI i))]) (hP : va_P (dC, dI) clA [(m0, .inr (9, [.int mth, .int (nI mt), .ref m1, .ref m2, .int mf, .int (nI mcd), .ref m3, .ref m4, .ref m5, .ref m6, .int (nI mev), .ref m7, .ref m8, .ref m9, .ref m10, .ref m11, .ref m12, .ref m13, .int mwh, .int mps, .ref m14, .ref m15, .long mlr, .int (nI mlt), .int (nI mlm), .ref m16, .int mln, .ref m17])), (m3, .inl (cI, 60, .inl gpl))] H) (hD : va_D A [(m0, .inr (9, [.int mth, .int (nI mt), .ref m1, .ref m2, .int mf, .int (nI mcd), .ref m3, .ref m4, .ref m5, .ref m6, .int (nI mev), .ref m7, .ref m8, .ref m9, .ref m10, .ref m11, .ref m12, .ref m13, .int mwh, .int mps, .ref m14, .ref m15, .long mlr, .int (nI mlt), .int (nI mlm), .ref m16, .int mln, .ref m17])), (m3, .inl (cI, 60, .inl gpl))]) (hS : va_S A s.heap H locs) (hm5 : 60 - i < n5), W p l e (headSpec (Cond.code y_Mo_further prog_11_method_20_code 6 (some .int) :: wsA) { frames := 1, cells := 0, slots := 0, locals := 22 }).room s m ([.ref m0, .int x, .int y, .long z] : List Value).toArray below meth c H locs 0 0 Q (F0 m 5 ls []) := by
    clear hl hP hD hS
    intro n5
    induction n5 with
    | zero => intro i hi hi2 H locs ls hl hP hD hS hm; exact absurd hm (Nat.not_lt_zero _)
    | succ n5 hloop1_ih =>
      intro i hi hi2 H locs ls hl hP hD hS hm5
      refine lv_iload hx hb d_Mo_further_5 (lv_at hl 4 rfl) ?_
      refine lv_aload_n hx hb d_Mo_further_7 rfl (lv_at hl 0 rfl) ?_
      refine va_get (D := (dC, dI)) (ci := 9) (v := .int (nI mcd)) (C := "NetUnfolderModel") (T := T_Mo) (N := 28) hx hb ht in_Mo hown hK hP 0 rfl rfl 5 (by decide) (ht _ wd_4_5) (fun _ h9 => h9) rfl d_Mo_further_8 ?_
      refine lv_icmp_ge (tgt := 43) hx hb d_Mo_further_11 (by decide) (fun hb2 => ?_) (fun hb2 => ?_)
      · skip
        replace hb2 := cv_le (a := mcd) (b := i) (by omega) (by omega) hb2
        refine lv_iconst (v := (-1)) hx hb d_Mo_further_43 (by decide) ?_
        have hP9 := hP.sub (ws' := [(m0, .inr (9, [.int mth, .int (nI mt), .ref m1, .ref m2, .int mf, .int (nI mcd), .ref m3, .ref m4, .ref m5, .ref m6, .int (nI mev), .ref m7, .ref m8, .ref m9, .ref m10, .ref m11, .ref m12, .ref m13, .int mwh, .int mps, .ref m14, .ref m15, .long mlr, .int (nI mlt), .int (nI mlm), .ref m16, .int mln, .ref m17])), (m3, .inl (cI, 60, .inl gpl))]) [0, 1] rfl
        have hD9 := hD.sub (ws' := [(m0, .inr (9, [.int mth, .int (nI mt), .ref m1, .ref m2, .int mf, .int (nI mcd), .ref m3, .ref m4, .ref m5, .ref m6, .int (nI mev), .ref m7, .ref m8, .ref m9, .ref m10, .ref m11, .ref m12, .ref m13, .int mwh, .int mps, .ref m14, .ref m15, .long mlr, .int (nI mlt), .int (nI mlm), .ref m16, .int mln, .ref m17])), (m3, .inl (cI, 60, .inl gpl))]) [0, 1] (by decide) rfl
        subst hQ
        exact W.iret (v := (-1)) hx hb hr (fun t9 ht9 hW => ⟨⟨(-1), (), rfl, (Or.inl rfl), by rw [ht9]; exact hP9, hD9⟩, hS.F ht9⟩) hS.2.2 d_Mo_further_44
      · skip
        replace hb2 := cv_nle (a := mcd) (b := i) (by omega) (by omega) hb2
        refine lv_aload_n hx hb d_Mo_further_14 rfl (lv_at hl 0 rfl) ?_
        refine va_get (D := (dC, dI)) (ci := 9) (v := .ref m3) (C := "NetUnfolderModel") (T := T_Mo) (N := 28) hx hb ht in_Mo hown hK hP 0 rfl rfl 6 (by decide) (ht _ wd_4_6) (fun _ h9 => h9) rfl d_Mo_further_15 ?_
        refine lv_iload hx hb d_Mo_further_18 (lv_at hl 4 rfl) ?_
        refine na_iald (k := i) hx hb hK hP 1 0 rfl rfl (by omega) (by decide) d_Mo_further_20 ?_
        refine lv_iload_n hx hb d_Mo_further_21 rfl (lv_at hl 2 rfl) ?_
        refine lv_icmp_ne (tgt := 37) hx hb d_Mo_further_22 (by decide) (fun hb3 => ?_) (fun hb3 => ?_)
        · skip
          refine lv_iinc (k := 4) (v := nI (i + 1)) (lv' := [(5, .int (nI (i + 1))), (0, .ref m0), (1, .int x), (2, .int y), (3, .long z)]) hx hb d_Mo_further_37 hl rfl (nI_1 _) (by decide) rfl (fun ls hln => ?_)
          replace hl : lv_has ls 6 [(5, .int (nI (i + 1))), (0, .ref m0), (1, .int x), (2, .int y), (3, .long z)] := hln
          clear hln
          refine lv_goto (tgt := 5) hx hb d_Mo_further_40 (by decide) ?_
          exact hloop1_ih (i + 1) (by first | assumption | omega | trivial | exact AllLt.zero | exact AllN.zero | exact AllM.zero | exact Or.inl rfl | exact Or.inr rfl) (by first | assumption | omega | trivial | exact AllLt.zero | exact AllN.zero | exact AllM.zero | exact Or.inl rfl | exact Or.inr rfl) _ _ ls (lv_sub hl [1, 2, 3, 4, 0] rfl) (hP.sub [0, 1] rfl) (hD.sub [0, 1] (by decide) rfl) hS (by omega)
        · skip
          refine lv_lload_n hx hb d_Mo_further_25 rfl (lv_at hl 3 rfl) ?_
          refine lv_iload hx hb d_Mo_further_26 (lv_at hl 4 rfl) ?_
          have hPc : va_P (dC, dI) clA [] _ := pu_P (H := H)
          have hDc : va_D (fun _ => True) [] := pu_D
          have hFc := pu_free hS hA
          refine va_calli (va_runS (As := [.long z, .int (nI i)]) (rest := []) ⟨hx, hb, hml, hown, ht⟩ (c_Mo_has l dC dI cI cL cZ _ z i (by first | assumption | omega | trivial | exact AllLt.zero | exact AllN.zero | exact AllM.zero | exact Or.inl rfl | exact Or.inr rfl)) (va_cwS 2 ht (good_S wd_4_121 wd_4_122 wd_1_10 wd_4_123) rfl rfl rfl (by decide +kernel) ⟨Nat.le_of_ble_eq_true rfl, Nat.le_of_ble_eq_true rfl⟩) ⟨fun a U g mk q => by obtain ⟨q0, q1, qP, qK, qD, qN⟩ := q; exact ⟨q0, q1, qP, va_K.moved (u := U) (U := U.calling g mk a) (Vm.Alike.refl U.vm) qK, qD, NwA.same (u := U) rfl qN⟩, fun U hU hW => ⟨rfl, by rw [hU], by rw [hU]; exact hPc, va_K.moved hW.alike hK, hDc.weaken (fun _ _ _ _ => trivial), NwA.warm hW hN⟩⟩ rfl rfl hl.1 rfl (lv_room (Nat.le_of_ble_eq_true rfl)) d_Mo_further_28 ⟨Nat.le_of_ble_eq_true rfl, Nat.le_of_ble_eq_true rfl⟩) hS (fun q _ h => hFc q h) hFc (fun r6 u9 t9 H4 locs ht9 hvm hw5 hB hz1 hk1 hSn => ?_)
          replace hP : va_P (dC, dI) clA [(m0, .inr (9, [.int mth, .int (nI mt), .ref m1, .ref m2, .int mf, .int (nI mcd), .ref m3, .ref m4, .ref m5, .ref m6, .int (nI mev), .ref m7, .ref m8, .ref m9, .ref m10, .ref m11, .ref m12, .ref m13, .int mwh, .int mps, .ref m14, .ref m15, .long mlr, .int (nI mlt), .int (nI mlm), .ref m16, .int mln, .ref m17])), (m3, .inl (cI, 60, .inl gpl))] H4 := pu_keep hP hk1
          replace hS := hSn
          clear hSn hPc hDc hFc hk1 hz1 ht9 hvm hB
          refine W.cs (cells' := 0) (slots' := 0) rfl rfl ?_
          subst hw5
          refine lv_if_eq (tgt := 37) hx hb d_Mo_further_31 (by decide) (fun hb7 => ?_) (fun hb7 => ?_)
          · skip
            refine lv_iinc (k := 4) (v := nI (i + 1)) (lv' := [(5, .int (nI (i + 1))), (0, .ref m0), (1, .int x), (2, .int y), (3, .long z)]) hx hb d_Mo_further_37 hl rfl (nI_1 _) (by decide) rfl (fun ls hln => ?_)
            replace hl : lv_has ls 6 [(5, .int (nI (i + 1))), (0, .ref m0), (1, .int x), (2, .int y), (3, .long z)] := hln
            clear hln
            refine lv_goto (tgt := 5) hx hb d_Mo_further_40 (by decide) ?_
            exact hloop1_ih (i + 1) (by first | assumption | omega | trivial | exact AllLt.zero | exact AllN.zero | exact AllM.zero | exact Or.inl rfl | exact Or.inr rfl) (by first | assumption | omega | trivial | exact AllLt.zero | exact AllN.zero | exact AllM.zero | exact Or.inl rfl | exact Or.inr rfl) _ _ ls (lv_sub hl [1, 2, 3, 4, 0] rfl) (hP.sub [0, 1] rfl) (hD.sub [0, 1] (by decide) rfl) hS (by omega)
          · skip
            refine lv_iload hx hb d_Mo_further_34 (lv_at hl 4 rfl) ?_
            have hP9 := hP.sub (ws' := [(m0, .inr (9, [.int mth, .int (nI mt), .ref m1, .ref m2, .int mf, .int (nI mcd), .ref m3, .ref m4, .ref m5, .ref m6, .int (nI mev), .ref m7, .ref m8, .ref m9, .ref m10, .ref m11, .ref m12, .ref m13, .int mwh, .int mps, .ref m14, .ref m15, .long mlr, .int (nI mlt), .int (nI mlm), .ref m16, .int mln, .ref m17])), (m3, .inl (cI, 60, .inl gpl))]) [0, 1] rfl
            have hD9 := hD.sub (ws' := [(m0, .inr (9, [.int mth, .int (nI mt), .ref m1, .ref m2, .int mf, .int (nI mcd), .ref m3, .ref m4, .ref m5, .ref m6, .int (nI mev), .ref m7, .ref m8, .ref m9, .ref m10, .ref m11, .ref m12, .ref m13, .int mwh, .int mps, .ref m14, .ref m15, .long mlr, .int (nI mlt), .int (nI mlm), .ref m16, .int mln, .ref m17])), (m3, .inl (cI, 60, .inl gpl))]) [0, 1] (by decide) rfl
            subst hQ
            exact W.iret (v := nI i) hx hb hr (fun t9 ht9 hW => ⟨⟨nI i, (), rfl, (Or.inr ⟨_, by omega, by omega, rfl⟩), by rw [ht9]; exact hP9, hD9⟩, hS.F ht9⟩) hS.2.2 d_Mo_further_36
  exact hloop1 ((60 - a9) + 1) a9 (by first | assumption | omega | trivial | exact AllLt.zero | exact AllN.zero | exact AllM.zero | exact Or.inl rfl | exact Or.inr rfl) (by first | assumption | omega | trivial | exact AllLt.zero | exact AllN.zero | exact AllM.zero | exact Or.inl rfl | exact Or.inr rfl) _ _ ls (lv_sub hl [1, 2, 3, 4, 0] rfl) hP hD hS (Nat.lt_succ_self _)

set_option maxHeartbeats 4000000 in
set_option maxRecDepth 100000 in
theorem c_Mo_setOf (l : Launch) (dC : Nat → ClassId) (dI : Nat → Nat → Nat) (cI cL cZ : ClassId) (sz : Nat) (m0 : Nat) (m1 : Nat) (m2 : Nat) (m3 : Nat) (m4 : Nat) (m5 : Nat) (m6 : Nat) (m7 : Nat) (m8 : Nat) (m9 : Nat) (m10 : Nat) (m11 : Nat) (m12 : Nat) (m13 : Nat) (m14 : Nat) (m15 : Nat) (m16 : Nat) (m17 : Nat) (mth : Int32) (mt : Nat) (mf : Int32) (mcd : Nat) (mev : Nat) (mwh : Int32) (mps : Int32) (mlr : Int64) (mlt : Nat) (mlm : Nat) (mln : Int32) (gch : Nat → Int32) (n : Nat) (hn8 : n ≤ 8) : Met l y_Mo_setOf (Cond.code y_Mo_setOf prog_11_method_17_code 5 (some .long) :: wsA) { frames := 0, cells := 0, slots := 0, locals := 0 } (va_Pc [.ref m0, .int (nI n)] (fun U => U.heap.size = sz ∧ va_P (dC, dI) clA [(m0, .inr (9, [.int mth, .int (nI mt), .ref m1, .ref m2, .int mf, .int (nI mcd), .ref m3, .ref m4, .ref m5, .ref m6, .int (nI mev), .ref m7, .ref m8, .ref m9, .ref m10, .ref m11, .ref m12, .ref m13, .int mwh, .int mps, .ref m14, .ref m15, .long mlr, .int (nI mlt), .int (nI mlm), .ref m16, .int mln, .ref m17])), (m14, .inl (cI, 8, .inl gch))] U.heap ∧ va_K (dC, dI) clA [(cI, .int), (cL, .long), (cZ, .boolean)] U ∧ va_D (fun _ => True) [(m0, .inr (9, [.int mth, .int (nI mt), .ref m1, .ref m2, .int mf, .int (nI mcd), .ref m3, .ref m4, .ref m5, .ref m6, .int (nI mev), .ref m7, .ref m8, .ref m9, .ref m10, .ref m11, .ref m12, .ref m13, .int mwh, .int mps, .ref m14, .ref m15, .long mlr, .int (nI mlt), .int (nI mlm), .ref m16, .int mln, .ref m17])), (m14, .inl (cI, 8, .inl gch))] ∧ NwA U)) (va_Ql (fun r (_ : Unit) => True) (fun _ t => va_P (dC, dI) clA [(m0, .inr (9, [.int mth, .int (nI mt), .ref m1, .ref m2, .int mf, .int (nI mcd), .ref m3, .ref m4, .ref m5, .ref m6, .int (nI mev), .ref m7, .ref m8, .ref m9, .ref m10, .ref m11, .ref m12, .ref m13, .int mwh, .int mps, .ref m14, .ref m15, .long mlr, .int (nI mlt), .int (nI mlm), .ref m16, .int mln, .ref m17])), (m14, .inl (cI, 8, .inl gch))] t.heap ∧ va_D (va_A [(m0, .inr (9, [.int mth, .int (nI mt), .ref m1, .ref m2, .int mf, .int (nI mcd), .ref m3, .ref m4, .ref m5, .ref m6, .int (nI mev), .ref m7, .ref m8, .ref m9, .ref m10, .ref m11, .ref m12, .ref m13, .int mwh, .int mps, .ref m14, .ref m15, .long mlr, .int (nI mlt), .int (nI mlm), .ref m16, .int mln, .ref m17])), (m14, .inl (cI, 8, .inl gch))] sz) [(m0, .inr (9, [.int mth, .int (nI mt), .ref m1, .ref m2, .int mf, .int (nI mcd), .ref m3, .ref m4, .ref m5, .ref m6, .int (nI mev), .ref m7, .ref m8, .ref m9, .ref m10, .ref m11, .ref m12, .ref m13, .int mwh, .int mps, .ref m14, .ref m15, .long mlr, .int (nI mlt), .int (nI mlm), .ref m16, .int mln, .ref m17])), (m14, .inl (cI, 8, .inl gch))]) (va_A [(m0, .inr (9, [.int mth, .int (nI mt), .ref m1, .ref m2, .int mf, .int (nI mcd), .ref m3, .ref m4, .ref m5, .ref m6, .int (nI mev), .ref m7, .ref m8, .ref m9, .ref m10, .ref m11, .ref m12, .ref m13, .int mwh, .int mps, .ref m14, .ref m15, .long mlr, .int (nI mlt), .int (nI mlm), .ref m16, .int mln, .ref m17])), (m14, .inl (cI, 8, .inl gch))] sz)) 0 0 (va_A [(m0, .inr (9, [.int mth, .int (nI mt), .ref m1, .ref m2, .int mf, .int (nI mcd), .ref m3, .ref m4, .ref m5, .ref m6, .int (nI mev), .ref m7, .ref m8, .ref m9, .ref m10, .ref m11, .ref m12, .ref m13, .int mwh, .int mps, .ref m14, .ref m15, .long mlr, .int (nI mlt), .int (nI mlm), .ref m16, .int mln, .ref m17])), (m14, .inl (cI, 8, .inl gch))] sz) := by
  refine Met.ofW (cc := prog_11_method_17_code) (maxL := 5) (ret := (some .long)) (by decide) rfl ?_
  intro p e s m args below meth c s₁ B hml hv
  obtain ⟨rfl, hsz, hP, hK, hD0, hN⟩ := hv
  have hx := B.exec
  have hb := B.bytes
  have hr := B.returns
  have ht : ∀ w ∈ wsA, w.before _ s = true := fun w h => atoms_spec (ws := (Cond.code y_Mo_setOf prog_11_method_17_code 5 (some .long) :: wsA)) B.pre w (List.mem_cons_of_mem _ h)
  have hown : s.vm.findClass "NetUnfolderModel" = some m.cls := findClass_of_methodNamed B.named
  have hlocks := B.notSynchronized
  subst hsz
  have hD := hD0.self (sz := s.heap.size)
  generalize hAe : va_A [(m0, .inr (9, [.int mth, .int (nI mt), .ref m1, .ref m2, .int mf, .int (nI mcd), .ref m3, .ref m4, .ref m5, .ref m6, .int (nI mev), .ref m7, .ref m8, .ref m9, .ref m10, .ref m11, .ref m12, .ref m13, .int mwh, .int mps, .ref m14, .ref m15, .long mlr, .int (nI mlt), .int (nI mlm), .ref m16, .int mln, .ref m17])), (m14, .inl (cI, 8, .inl gch))] s.heap.size = A at hD ⊢
  have hA : ∀ q : Nat, s.heap.size ≤ q → A q := fun q h => by rw [← hAe]; exact Or.inr h
  have hS : va_S A s.heap s.heap [] := va_S.rf
  have hl := lv_entry ([.ref m0, .int (nI n)]) (n := 5) (Nat.le_of_ble_eq_true rfl)
  rw [lg_entry_eq]
  generalize (lg_sl ([.ref m0, .int (nI n)]) ++ List.replicate (5 - (lg_sl ([.ref m0, .int (nI n)])).length) Slot.unset).toArray = ls at hl ⊢
  replace hl : lv_has ls 5 [(0, .ref m0), (1, .int (nI n))] := hl
  refine W_Q (fun Q hQ => ?_)
  refine lv_lconst (v := 0) hx hb d_Mo_setOf_0 (by decide) ?_
  refine lv_lstore_n (lv' := [(2, .long 0), (0, .ref m0), (1, .int (nI n))]) hx hb d_Mo_setOf_1 rfl hl (by decide) rfl (fun ls hln => ?_)
  replace hl : lv_has ls 5 [(2, .long 0), (0, .ref m0), (1, .int (nI n))] := hln
  clear hln
  refine lv_iconst (v := 0) hx hb d_Mo_setOf_2 (by decide) ?_
  refine lv_istore (lv' := [(4, .int 0), (2, .long 0), (0, .ref m0), (1, .int (nI n))]) hx hb d_Mo_setOf_3 hl (by decide) rfl (fun ls hln => ?_)
  replace hl : lv_has ls 5 [(4, .int 0), (2, .long 0), (0, .ref m0), (1, .int (nI n))] := hln
  clear hln
  have hloop1 : ∀ (n5 : Nat) (v : Int64) (i : Nat) (hi : i ≤ n) (H : Heap) (locs : List Loc) (ls : Array Slot) (hl : lv_has ls 5 [(0, .ref m0), (1, .int (nI n)), (2, .long v), (4, .int (nI i))]) (hP : va_P (dC, dI) clA [(m0, .inr (9, [.int mth, .int (nI mt), .ref m1, .ref m2, .int mf, .int (nI mcd), .ref m3, .ref m4, .ref m5, .ref m6, .int (nI mev), .ref m7, .ref m8, .ref m9, .ref m10, .ref m11, .ref m12, .ref m13, .int mwh, .int mps, .ref m14, .ref m15, .long mlr, .int (nI mlt), .int (nI mlm), .ref m16, .int mln, .ref m17])), (m14, .inl (cI, 8, .inl gch))] H) (hD : va_D A [(m0, .inr (9, [.int mth, .int (nI mt), .ref m1, .ref m2, .int mf, .int (nI mcd), .ref m3, .ref m4, .ref m5, .ref m6, .int (nI mev), .ref m7, .ref m8, .ref m9, .ref m10, .ref m11, .ref m12, .ref m13, .int mwh, .int mps, .ref m14, .ref m15, .long mlr, .int (nI mlt), .int (nI mlm), .ref m16, .int mln, .ref m17])), (m14, .inl (cI, 8, .inl gch))]) (hS : va_S A s.heap H locs) (hm5 : n - i < n5), W p l e (headSpec (Cond.code y_Mo_setOf prog_11_method_17_code 5 (some .long) :: wsA) { frames := 0, cells := 0, slots := 0, locals := 0 }).room s m ([.ref m0, .int (nI n)] : List Value).toArray below meth c H locs 0 0 Q (F0 m 5 ls []) := by
    clear hl hP hD hS
    intro n5
    induction n5 with
    | zero => intro v i hi H locs ls hl hP hD hS hm; exact absurd hm (Nat.not_lt_zero _)
    | succ n5 hloop1_ih =>
      intro v i hi H locs ls hl hP hD hS hm5
      refine lv_iload hx hb d_Mo_setOf_5 (lv_at hl 3 rfl) ?_
      refine lv_iload_n hx hb d_Mo_setOf_7 rfl (lv_at hl 1 rfl) ?_
      refine lv_icmp_ge (tgt := 29) hx hb d_Mo_setOf_8 (by decide) (fun hb2 => ?_) (fun hb2 => ?_)
      · skip
        replace hb2 := cv_le (a := n) (b := i) (by omega) (by omega) hb2
        refine lv_lload_n hx hb d_Mo_setOf_29 rfl (lv_at hl 2 rfl) ?_
        have hP9 := hP.sub (ws' := [(m0, .inr (9, [.int mth, .int (nI mt), .ref m1, .ref m2, .int mf, .int (nI mcd), .ref m3, .ref m4, .ref m5, .ref m6, .int (nI mev), .ref m7, .ref m8, .ref m9, .ref m10, .ref m11, .ref m12, .ref m13, .int mwh, .int mps, .ref m14, .ref m15, .long mlr, .int (nI mlt), .int (nI mlm), .ref m16, .int mln, .ref m17])), (m14, .inl (cI, 8, .inl gch))]) [0, 1] rfl
        have hD9 := hD.sub (ws' := [(m0, .inr (9, [.int mth, .int (nI mt), .ref m1, .ref m2, .int mf, .int (nI mcd), .ref m3, .ref m4, .ref m5, .ref m6, .int (nI mev), .ref m7, .ref m8, .ref m9, .ref m10, .ref m11, .ref m12, .ref m13, .int mwh, .int mps, .ref m14, .ref m15, .long mlr, .int (nI mlt), .int (nI mlm), .ref m16, .int mln, .ref m17])), (m14, .inl (cI, 8, .inl gch))]) [0, 1] (by decide) rfl
        subst hQ
        exact W.lret (v := v) hx hb hr (fun t9 ht9 hW => ⟨⟨v, (), rfl, trivial, by rw [ht9]; exact hP9, hD9⟩, hS.F ht9⟩) hS.2.2 d_Mo_setOf_30
      · skip
        replace hb2 := cv_nle (a := n) (b := i) (by omega) (by omega) hb2
        refine lv_lload_n hx hb d_Mo_setOf_11 rfl (lv_at hl 2 rfl) ?_
        refine lv_lconst (v := 1) hx hb d_Mo_setOf_12 (by decide) ?_
        refine lv_aload_n hx hb d_Mo_setOf_13 rfl (lv_at hl 0 rfl) ?_
        refine va_get (D := (dC, dI)) (ci := 9) (v := .ref m14) (C := "NetUnfolderModel") (T := T_Mo) (N := 28) hx hb ht in_Mo hown hK hP 0 rfl rfl 20 (by decide) (ht _ wd_4_20) (fun _ h9 => h9) rfl d_Mo_setOf_14 ?_
        refine lv_iload hx hb d_Mo_setOf_17 (lv_at hl 3 rfl) ?_
        refine na_iald (k := i) hx hb hK hP 1 0 rfl rfl (by omega) (by decide) d_Mo_setOf_19 ?_
        refine lv_lshl (v := 1 <<< (Int32.toInt64 (gch i) &&& 63)) hx hb d_Mo_setOf_20 rfl ?_
        refine lv_lor hx hb d_Mo_setOf_21 ?_
        refine lv_lstore_n (lv' := [(2, .long (v ||| (1 <<< (Int32.toInt64 (gch i) &&& 63)))), (0, .ref m0), (1, .int (nI n)), (4, .int (nI i))]) hx hb d_Mo_setOf_22 rfl hl (by decide) rfl (fun ls hln => ?_)
        replace hl : lv_has ls 5 [(2, .long (v ||| (1 <<< (Int32.toInt64 (gch i) &&& 63)))), (0, .ref m0), (1, .int (nI n)), (4, .int (nI i))] := hln
        clear hln
        refine lv_iinc (k := 3) (v := nI (i + 1)) (lv' := [(4, .int (nI (i + 1))), (2, .long (v ||| (1 <<< (Int32.toInt64 (gch i) &&& 63)))), (0, .ref m0), (1, .int (nI n))]) hx hb d_Mo_setOf_23 hl rfl (nI_1 _) (by decide) rfl (fun ls hln => ?_)
        replace hl : lv_has ls 5 [(4, .int (nI (i + 1))), (2, .long (v ||| (1 <<< (Int32.toInt64 (gch i) &&& 63)))), (0, .ref m0), (1, .int (nI n))] := hln
        clear hln
        refine lv_goto (tgt := 5) hx hb d_Mo_setOf_26 (by decide) ?_
        exact hloop1_ih (v ||| (1 <<< (Int32.toInt64 (gch i) &&& 63))) (i + 1) (by first | assumption | omega | trivial | exact AllLt.zero | exact AllN.zero | exact AllM.zero | exact Or.inl rfl | exact Or.inr rfl) _ _ ls (lv_sub hl [2, 3, 1, 0] rfl) (hP.sub [0, 1] rfl) (hD.sub [0, 1] (by decide) rfl) hS (by omega)
  exact hloop1 ((n - 0) + 1) 0 0 (by first | assumption | omega | trivial | exact AllLt.zero | exact AllN.zero | exact AllM.zero | exact Or.inl rfl | exact Or.inr rfl) _ _ ls (lv_sub hl [2, 3, 1, 0] rfl) hP hD hS (Nat.lt_succ_self _)

set_option maxHeartbeats 4000000 in
set_option maxRecDepth 100000 in
theorem c_Mo_behindAll (l : Launch) (dC : Nat → ClassId) (dI : Nat → Nat → Nat) (cI cL cZ : ClassId) (sz : Nat) (m0 : Nat) (m1 : Nat) (m2 : Nat) (m3 : Nat) (m4 : Nat) (m5 : Nat) (m6 : Nat) (m7 : Nat) (m8 : Nat) (m9 : Nat) (m10 : Nat) (m11 : Nat) (m12 : Nat) (m13 : Nat) (m14 : Nat) (m15 : Nat) (m16 : Nat) (m17 : Nat) (mth : Int32) (mt : Nat) (mf : Int32) (mcd : Nat) (mev : Nat) (mwh : Int32) (mps : Int32) (mlr : Int64) (mlt : Nat) (mlm : Nat) (mln : Int32) (gbh : Nat → Int32) (gch : Nat → Int32) (n : Nat) (hn8 : n ≤ 8) (hgch : AllLt gch n 60) : Met l y_Mo_behindAll (Cond.code y_Mo_behindAll prog_11_method_16_code 4 (some .int) :: wsA) { frames := 0, cells := 0, slots := 0, locals := 0 } (va_Pc [.ref m0, .int (nI n)] (fun U => U.heap.size = sz ∧ va_P (dC, dI) clA [(m0, .inr (9, [.int mth, .int (nI mt), .ref m1, .ref m2, .int mf, .int (nI mcd), .ref m3, .ref m4, .ref m5, .ref m6, .int (nI mev), .ref m7, .ref m8, .ref m9, .ref m10, .ref m11, .ref m12, .ref m13, .int mwh, .int mps, .ref m14, .ref m15, .long mlr, .int (nI mlt), .int (nI mlm), .ref m16, .int mln, .ref m17])), (m5, .inl (cI, 60, .inl gbh)), (m14, .inl (cI, 8, .inl gch))] U.heap ∧ va_K (dC, dI) clA [(cI, .int), (cL, .long), (cZ, .boolean)] U ∧ va_D (fun _ => True) [(m0, .inr (9, [.int mth, .int (nI mt), .ref m1, .ref m2, .int mf, .int (nI mcd), .ref m3, .ref m4, .ref m5, .ref m6, .int (nI mev), .ref m7, .ref m8, .ref m9, .ref m10, .ref m11, .ref m12, .ref m13, .int mwh, .int mps, .ref m14, .ref m15, .long mlr, .int (nI mlt), .int (nI mlm), .ref m16, .int mln, .ref m17])), (m5, .inl (cI, 60, .inl gbh)), (m14, .inl (cI, 8, .inl gch))] ∧ NwA U)) (va_Qi (fun r (_ : Unit) => True) (fun _ t => va_P (dC, dI) clA [(m0, .inr (9, [.int mth, .int (nI mt), .ref m1, .ref m2, .int mf, .int (nI mcd), .ref m3, .ref m4, .ref m5, .ref m6, .int (nI mev), .ref m7, .ref m8, .ref m9, .ref m10, .ref m11, .ref m12, .ref m13, .int mwh, .int mps, .ref m14, .ref m15, .long mlr, .int (nI mlt), .int (nI mlm), .ref m16, .int mln, .ref m17])), (m5, .inl (cI, 60, .inl gbh)), (m14, .inl (cI, 8, .inl gch))] t.heap ∧ va_D (va_A [(m0, .inr (9, [.int mth, .int (nI mt), .ref m1, .ref m2, .int mf, .int (nI mcd), .ref m3, .ref m4, .ref m5, .ref m6, .int (nI mev), .ref m7, .ref m8, .ref m9, .ref m10, .ref m11, .ref m12, .ref m13, .int mwh, .int mps, .ref m14, .ref m15, .long mlr, .int (nI mlt), .int (nI mlm), .ref m16, .int mln, .ref m17])), (m5, .inl (cI, 60, .inl gbh)), (m14, .inl (cI, 8, .inl gch))] sz) [(m0, .inr (9, [.int mth, .int (nI mt), .ref m1, .ref m2, .int mf, .int (nI mcd), .ref m3, .ref m4, .ref m5, .ref m6, .int (nI mev), .ref m7, .ref m8, .ref m9, .ref m10, .ref m11, .ref m12, .ref m13, .int mwh, .int mps, .ref m14, .ref m15, .long mlr, .int (nI mlt), .int (nI mlm), .ref m16, .int mln, .ref m17])), (m5, .inl (cI, 60, .inl gbh)), (m14, .inl (cI, 8, .inl gch))]) (va_A [(m0, .inr (9, [.int mth, .int (nI mt), .ref m1, .ref m2, .int mf, .int (nI mcd), .ref m3, .ref m4, .ref m5, .ref m6, .int (nI mev), .ref m7, .ref m8, .ref m9, .ref m10, .ref m11, .ref m12, .ref m13, .int mwh, .int mps, .ref m14, .ref m15, .long mlr, .int (nI mlt), .int (nI mlm), .ref m16, .int mln, .ref m17])), (m5, .inl (cI, 60, .inl gbh)), (m14, .inl (cI, 8, .inl gch))] sz)) 0 0 (va_A [(m0, .inr (9, [.int mth, .int (nI mt), .ref m1, .ref m2, .int mf, .int (nI mcd), .ref m3, .ref m4, .ref m5, .ref m6, .int (nI mev), .ref m7, .ref m8, .ref m9, .ref m10, .ref m11, .ref m12, .ref m13, .int mwh, .int mps, .ref m14, .ref m15, .long mlr, .int (nI mlt), .int (nI mlm), .ref m16, .int mln, .ref m17])), (m5, .inl (cI, 60, .inl gbh)), (m14, .inl (cI, 8, .inl gch))] sz) := by
  refine Met.ofW (cc := prog_11_method_16_code) (maxL := 4) (ret := (some .int)) (by decide) rfl ?_
  intro p e s m args below meth c s₁ B hml hv
  obtain ⟨rfl, hsz, hP, hK, hD0, hN⟩ := hv
  have hx := B.exec
  have hb := B.bytes
  have hr := B.returns
  have ht : ∀ w ∈ wsA, w.before _ s = true := fun w h => atoms_spec (ws := (Cond.code y_Mo_behindAll prog_11_method_16_code 4 (some .int) :: wsA)) B.pre w (List.mem_cons_of_mem _ h)
  have hown : s.vm.findClass "NetUnfolderModel" = some m.cls := findClass_of_methodNamed B.named
  have hlocks := B.notSynchronized
  subst hsz
  have hD := hD0.self (sz := s.heap.size)
  generalize hAe : va_A [(m0, .inr (9, [.int mth, .int (nI mt), .ref m1, .ref m2, .int mf, .int (nI mcd), .ref m3, .ref m4, .ref m5, .ref m6, .int (nI mev), .ref m7, .ref m8, .ref m9, .ref m10, .ref m11, .ref m12, .ref m13, .int mwh, .int mps, .ref m14, .ref m15, .long mlr, .int (nI mlt), .int (nI mlm), .ref m16, .int mln, .ref m17])), (m5, .inl (cI, 60, .inl gbh)), (m14, .inl (cI, 8, .inl gch))] s.heap.size = A at hD ⊢
  have hA : ∀ q : Nat, s.heap.size ≤ q → A q := fun q h => by rw [← hAe]; exact Or.inr h
  have hS : va_S A s.heap s.heap [] := va_S.rf
  have hl := lv_entry ([.ref m0, .int (nI n)]) (n := 4) (Nat.le_of_ble_eq_true rfl)
  rw [lg_entry_eq]
  generalize (lg_sl ([.ref m0, .int (nI n)]) ++ List.replicate (4 - (lg_sl ([.ref m0, .int (nI n)])).length) Slot.unset).toArray = ls at hl ⊢
  replace hl : lv_has ls 4 [(0, .ref m0), (1, .int (nI n))] := hl
  refine W_Q (fun Q hQ => ?_)
  refine lv_iconst (v := 0) hx hb d_Mo_behindAll_0 (by decide) ?_
  refine lv_istore_n (lv' := [(2, .int 0), (0, .ref m0), (1, .int (nI n))]) hx hb d_Mo_behindAll_1 rfl hl (by decide) rfl (fun ls hln => ?_)
  replace hl : lv_has ls 4 [(2, .int 0), (0, .ref m0), (1, .int (nI n))] := hln
  clear hln
  refine lv_iconst (v := 0) hx hb d_Mo_behindAll_2 (by decide) ?_
  refine lv_istore_n (lv' := [(3, .int 0), (2, .int 0), (0, .ref m0), (1, .int (nI n))]) hx hb d_Mo_behindAll_3 rfl hl (by decide) rfl (fun ls hln => ?_)
  replace hl : lv_has ls 4 [(3, .int 0), (2, .int 0), (0, .ref m0), (1, .int (nI n))] := hln
  clear hln
  have hloop1 : ∀ (n4 : Nat) (v : Int32) (i : Nat) (hi : i ≤ n) (H : Heap) (locs : List Loc) (ls : Array Slot) (hl : lv_has ls 4 [(0, .ref m0), (1, .int (nI n)), (2, .int v), (3, .int (nI i))]) (hP : va_P (dC, dI) clA [(m0, .inr (9, [.int mth, .int (nI mt), .ref m1, .ref m2, .int mf, .int (nI mcd), .ref m3, .ref m4, .ref m5, .ref m6, .int (nI mev), .ref m7, .ref m8, .ref m9, .ref m10, .ref m11, .ref m12, .ref m13, .int mwh, .int mps, .ref m14, .ref m15, .long mlr, .int (nI mlt), .int (nI mlm), .ref m16, .int mln, .ref m17])), (m5, .inl (cI, 60, .inl gbh)), (m14, .inl (cI, 8, .inl gch))] H) (hD : va_D A [(m0, .inr (9, [.int mth, .int (nI mt), .ref m1, .ref m2, .int mf, .int (nI mcd), .ref m3, .ref m4, .ref m5, .ref m6, .int (nI mev), .ref m7, .ref m8, .ref m9, .ref m10, .ref m11, .ref m12, .ref m13, .int mwh, .int mps, .ref m14, .ref m15, .long mlr, .int (nI mlt), .int (nI mlm), .ref m16, .int mln, .ref m17])), (m5, .inl (cI, 60, .inl gbh)), (m14, .inl (cI, 8, .inl gch))]) (hS : va_S A s.heap H locs) (hm4 : n - i < n4), W p l e (headSpec (Cond.code y_Mo_behindAll prog_11_method_16_code 4 (some .int) :: wsA) { frames := 0, cells := 0, slots := 0, locals := 0 }).room s m ([.ref m0, .int (nI n)] : List Value).toArray below meth c H locs 0 0 Q (F0 m 4 ls []) := by
    clear hl hP hD hS
    intro n4
    induction n4 with
    | zero => intro v i hi H locs ls hl hP hD hS hm; exact absurd hm (Nat.not_lt_zero _)
    | succ n4 hloop1_ih =>
      intro v i hi H locs ls hl hP hD hS hm4
      refine lv_iload_n hx hb d_Mo_behindAll_4 rfl (lv_at hl 3 rfl) ?_
      refine lv_iload_n hx hb d_Mo_behindAll_5 rfl (lv_at hl 1 rfl) ?_
      refine lv_icmp_ge (tgt := 29) hx hb d_Mo_behindAll_6 (by decide) (fun hb2 => ?_) (fun hb2 => ?_)
      · skip
        replace hb2 := cv_le (a := n) (b := i) (by omega) (by omega) hb2
        refine lv_iload_n hx hb d_Mo_behindAll_29 rfl (lv_at hl 2 rfl) ?_
        have hP9 := hP.sub (ws' := [(m0, .inr (9, [.int mth, .int (nI mt), .ref m1, .ref m2, .int mf, .int (nI mcd), .ref m3, .ref m4, .ref m5, .ref m6, .int (nI mev), .ref m7, .ref m8, .ref m9, .ref m10, .ref m11, .ref m12, .ref m13, .int mwh, .int mps, .ref m14, .ref m15, .long mlr, .int (nI mlt), .int (nI mlm), .ref m16, .int mln, .ref m17])), (m5, .inl (cI, 60, .inl gbh)), (m14, .inl (cI, 8, .inl gch))]) [0, 1, 2] rfl
        have hD9 := hD.sub (ws' := [(m0, .inr (9, [.int mth, .int (nI mt), .ref m1, .ref m2, .int mf, .int (nI mcd), .ref m3, .ref m4, .ref m5, .ref m6, .int (nI mev), .ref m7, .ref m8, .ref m9, .ref m10, .ref m11, .ref m12, .ref m13, .int mwh, .int mps, .ref m14, .ref m15, .long mlr, .int (nI mlt), .int (nI mlm), .ref m16, .int mln, .ref m17])), (m5, .inl (cI, 60, .inl gbh)), (m14, .inl (cI, 8, .inl gch))]) [0, 1, 2] (by decide) rfl
        subst hQ
        exact W.iret (v := v) hx hb hr (fun t9 ht9 hW => ⟨⟨v, (), rfl, trivial, by rw [ht9]; exact hP9, hD9⟩, hS.F ht9⟩) hS.2.2 d_Mo_behindAll_30
      · skip
        replace hb2 := cv_nle (a := n) (b := i) (by omega) (by omega) hb2
        refine lv_iload_n hx hb d_Mo_behindAll_9 rfl (lv_at hl 2 rfl) ?_
        refine lv_aload_n hx hb d_Mo_behindAll_10 rfl (lv_at hl 0 rfl) ?_
        refine va_get (D := (dC, dI)) (ci := 9) (v := .ref m5) (C := "NetUnfolderModel") (T := T_Mo) (N := 28) hx hb ht in_Mo hown hK hP 0 rfl rfl 8 (by decide) (ht _ wd_4_8) (fun _ h9 => h9) rfl d_Mo_behindAll_11 ?_
        refine lv_aload_n hx hb d_Mo_behindAll_14 rfl (lv_at hl 0 rfl) ?_
        refine va_get (D := (dC, dI)) (ci := 9) (v := .ref m14) (C := "NetUnfolderModel") (T := T_Mo) (N := 28) hx hb ht in_Mo hown hK hP 0 rfl rfl 20 (by decide) (ht _ wd_4_20) (fun _ h9 => h9) rfl d_Mo_behindAll_15 ?_
        refine lv_iload_n hx hb d_Mo_behindAll_18 rfl (lv_at hl 3 rfl) ?_
        refine na_iald (k := i) hx hb hK hP 2 0 rfl rfl (by omega) (by decide) d_Mo_behindAll_19 ?_
        obtain ⟨q3, hq4, eq5⟩ := hgch (i) (by omega)
        refine ci_i (y := nI q3) eq5 ?_
        refine na_iald (k := q3) hx hb hK hP 1 0 rfl rfl (by omega) (by decide) d_Mo_behindAll_20 ?_
        refine lv_ior hx hb d_Mo_behindAll_21 ?_
        refine lv_istore_n (lv' := [(2, .int (v ||| (gbh q3))), (0, .ref m0), (1, .int (nI n)), (3, .int (nI i))]) hx hb d_Mo_behindAll_22 rfl hl (by decide) rfl (fun ls hln => ?_)
        replace hl : lv_has ls 4 [(2, .int (v ||| (gbh q3))), (0, .ref m0), (1, .int (nI n)), (3, .int (nI i))] := hln
        clear hln
        refine lv_iinc (k := 3) (v := nI (i + 1)) (lv' := [(3, .int (nI (i + 1))), (2, .int (v ||| (gbh q3))), (0, .ref m0), (1, .int (nI n))]) hx hb d_Mo_behindAll_23 hl rfl (nI_1 _) (by decide) rfl (fun ls hln => ?_)
        replace hl : lv_has ls 4 [(3, .int (nI (i + 1))), (2, .int (v ||| (gbh q3))), (0, .ref m0), (1, .int (nI n))] := hln
        clear hln
        refine lv_goto (tgt := 4) hx hb d_Mo_behindAll_26 (by decide) ?_
        exact hloop1_ih (v ||| (gbh q3)) (i + 1) (by first | assumption | omega | trivial | exact AllLt.zero | exact AllN.zero | exact AllM.zero | exact Or.inl rfl | exact Or.inr rfl) _ _ ls (lv_sub hl [2, 3, 1, 0] rfl) (hP.sub [0, 1, 2] rfl) (hD.sub [0, 1, 2] (by decide) rfl) hS (by omega)
  exact hloop1 ((n - 0) + 1) 0 0 (by first | assumption | omega | trivial | exact AllLt.zero | exact AllN.zero | exact AllM.zero | exact Or.inl rfl | exact Or.inr rfl) _ _ ls (lv_sub hl [2, 3, 1, 0] rfl) hP hD hS (Nat.lt_succ_self _)

set_option maxHeartbeats 4000000 in
set_option maxRecDepth 100000 in
theorem c_Mo_rankOf (l : Launch) (dC : Nat → ClassId) (dI : Nat → Nat → Nat) (cI cL cZ : ClassId) (sz : Nat) (m0 : Nat) (m1 : Nat) (m2 : Nat) (m3 : Nat) (m4 : Nat) (m5 : Nat) (m6 : Nat) (m7 : Nat) (m8 : Nat) (m9 : Nat) (m10 : Nat) (m11 : Nat) (m12 : Nat) (m13 : Nat) (m14 : Nat) (m15 : Nat) (m16 : Nat) (m17 : Nat) (mth : Int32) (mt : Nat) (mf : Int32) (mcd : Nat) (mev : Nat) (mwh : Int32) (mps : Int32) (mlr : Int64) (mlt : Nat) (mlm : Nat) (mln : Int32) (gtr : Nat → Int32) (x : Int32) (y : Int32) (hev : mev ≤ 30) : Met l y_Mo_rankOf (Cond.code y_Mo_rankOf prog_11_method_15_code 11 (some .long) :: wsA) { frames := 1, cells := 0, slots := 0, locals := 22 } (va_Pc [.ref m0, .int x, .int y] (fun U => U.heap.size = sz ∧ va_P (dC, dI) clA [(m0, .inr (9, [.int mth, .int (nI mt), .ref m1, .ref m2, .int mf, .int (nI mcd), .ref m3, .ref m4, .ref m5, .ref m6, .int (nI mev), .ref m7, .ref m8, .ref m9, .ref m10, .ref m11, .ref m12, .ref m13, .int mwh, .int mps, .ref m14, .ref m15, .long mlr, .int (nI mlt), .int (nI mlm), .ref m16, .int mln, .ref m17])), (m7, .inl (cI, 30, .inl gtr))] U.heap ∧ va_K (dC, dI) clA [(cI, .int), (cL, .long), (cZ, .boolean)] U ∧ va_D (fun _ => True) [(m0, .inr (9, [.int mth, .int (nI mt), .ref m1, .ref m2, .int mf, .int (nI mcd), .ref m3, .ref m4, .ref m5, .ref m6, .int (nI mev), .ref m7, .ref m8, .ref m9, .ref m10, .ref m11, .ref m12, .ref m13, .int mwh, .int mps, .ref m14, .ref m15, .long mlr, .int (nI mlt), .int (nI mlm), .ref m16, .int mln, .ref m17])), (m7, .inl (cI, 30, .inl gtr))] ∧ NwA U)) (va_Ql (fun r (_ : Unit) => True) (fun _ t => va_P (dC, dI) clA [(m0, .inr (9, [.int mth, .int (nI mt), .ref m1, .ref m2, .int mf, .int (nI mcd), .ref m3, .ref m4, .ref m5, .ref m6, .int (nI mev), .ref m7, .ref m8, .ref m9, .ref m10, .ref m11, .ref m12, .ref m13, .int mwh, .int mps, .ref m14, .ref m15, .long mlr, .int (nI mlt), .int (nI mlm), .ref m16, .int mln, .ref m17])), (m7, .inl (cI, 30, .inl gtr))] t.heap ∧ va_D (va_A [(m0, .inr (9, [.int mth, .int (nI mt), .ref m1, .ref m2, .int mf, .int (nI mcd), .ref m3, .ref m4, .ref m5, .ref m6, .int (nI mev), .ref m7, .ref m8, .ref m9, .ref m10, .ref m11, .ref m12, .ref m13, .int mwh, .int mps, .ref m14, .ref m15, .long mlr, .int (nI mlt), .int (nI mlm), .ref m16, .int mln, .ref m17])), (m7, .inl (cI, 30, .inl gtr))] sz) [(m0, .inr (9, [.int mth, .int (nI mt), .ref m1, .ref m2, .int mf, .int (nI mcd), .ref m3, .ref m4, .ref m5, .ref m6, .int (nI mev), .ref m7, .ref m8, .ref m9, .ref m10, .ref m11, .ref m12, .ref m13, .int mwh, .int mps, .ref m14, .ref m15, .long mlr, .int (nI mlt), .int (nI mlm), .ref m16, .int mln, .ref m17])), (m7, .inl (cI, 30, .inl gtr))]) (va_A [(m0, .inr (9, [.int mth, .int (nI mt), .ref m1, .ref m2, .int mf, .int (nI mcd), .ref m3, .ref m4, .ref m5, .ref m6, .int (nI mev), .ref m7, .ref m8, .ref m9, .ref m10, .ref m11, .ref m12, .ref m13, .int mwh, .int mps, .ref m14, .ref m15, .long mlr, .int (nI mlt), .int (nI mlm), .ref m16, .int mln, .ref m17])), (m7, .inl (cI, 30, .inl gtr))] sz)) 0 0 (va_A [(m0, .inr (9, [.int mth, .int (nI mt), .ref m1, .ref m2, .int mf, .int (nI mcd), .ref m3, .ref m4, .ref m5, .ref m6, .int (nI mev), .ref m7, .ref m8, .ref m9, .ref m10, .ref m11, .ref m12, .ref m13, .int mwh, .int mps, .ref m14, .ref m15, .long mlr, .int (nI mlt), .int (nI mlm), .ref m16, .int mln, .ref m17])), (m7, .inl (cI, 30, .inl gtr))] sz) := by
  refine Met.ofW (cc := prog_11_method_15_code) (maxL := 11) (ret := (some .long)) (by decide) rfl ?_
  intro p e s m args below meth c s₁ B hml hv
  obtain ⟨rfl, hsz, hP, hK, hD0, hN⟩ := hv
  have hx := B.exec
  have hb := B.bytes
  have hr := B.returns
  have ht : ∀ w ∈ wsA, w.before _ s = true := fun w h => atoms_spec (ws := (Cond.code y_Mo_rankOf prog_11_method_15_code 11 (some .long) :: wsA)) B.pre w (List.mem_cons_of_mem _ h)
  have hown : s.vm.findClass "NetUnfolderModel" = some m.cls := findClass_of_methodNamed B.named
  have hlocks := B.notSynchronized
  subst hsz
  have hD := hD0.self (sz := s.heap.size)
  generalize hAe : va_A [(m0, .inr (9, [.int mth, .int (nI mt), .ref m1, .ref m2, .int mf, .int (nI mcd), .ref m3, .ref m4, .ref m5, .ref m6, .int (nI mev), .ref m7, .ref m8, .ref m9, .ref m10, .ref m11, .ref m12, .ref m13, .int mwh, .int mps, .ref m14, .ref m15, .long mlr, .int (nI mlt), .int (nI mlm), .ref m16, .int mln, .ref m17])), (m7, .inl (cI, 30, .inl gtr))] s.heap.size = A at hD ⊢
  have hA : ∀ q : Nat, s.heap.size ≤ q → A q := fun q h => by rw [← hAe]; exact Or.inr h
  have hS : va_S A s.heap s.heap [] := va_S.rf
  have hl := lv_entry ([.ref m0, .int x, .int y]) (n := 11) (Nat.le_of_ble_eq_true rfl)
  rw [lg_entry_eq]
  generalize (lg_sl ([.ref m0, .int x, .int y]) ++ List.replicate (11 - (lg_sl ([.ref m0, .int x, .int y])).length) Slot.unset).toArray = ls at hl ⊢
  replace hl : lv_has ls 11 [(0, .ref m0), (1, .int x), (2, .int y)] := hl
  refine W_Q (fun Q hQ => ?_)
  refine lv_lconst (v := 1) hx hb d_Mo_rankOf_0 (by decide) ?_
  refine lv_lstore_n (lv' := [(3, .long 1), (0, .ref m0), (1, .int x), (2, .int y)]) hx hb d_Mo_rankOf_1 rfl hl (by decide) rfl (fun ls hln => ?_)
  replace hl : lv_has ls 11 [(3, .long 1), (0, .ref m0), (1, .int x), (2, .int y)] := hln
  clear hln
  refine lv_lconst (v := 0) hx hb d_Mo_rankOf_2 (by decide) ?_
  refine lv_lstore (lv' := [(5, .long 0), (3, .long 1), (0, .ref m0), (1, .int x), (2, .int y)]) hx hb d_Mo_rankOf_3 hl (by decide) rfl (fun ls hln => ?_)
  replace hl : lv_has ls 11 [(5, .long 0), (3, .long 1), (0, .ref m0), (1, .int x), (2, .int y)] := hln
  clear hln
  refine lv_iconst (v := 0) hx hb d_Mo_rankOf_5 (by decide) ?_
  refine lv_istore (lv' := [(7, .int 0), (5, .long 0), (3, .long 1), (0, .ref m0), (1, .int x), (2, .int y)]) hx hb d_Mo_rankOf_6 hl (by decide) rfl (fun ls hln => ?_)
  replace hl : lv_has ls 11 [(7, .int 0), (5, .long 0), (3, .long 1), (0, .ref m0), (1, .int x), (2, .int y)] := hln
  clear hln
  have hloop1 : ∀ (n8 : Nat) (v3 : Int64) (v5 : Int64) (i : Nat) (hi : i ≤ 8) (H : Heap) (locs : List Loc) (ls : Array Slot) (hl : lv_has ls 11 [(0, .ref m0), (1, .int x), (2, .int y), (3, .long v3), (5, .long v5), (7, .int (nI i))]) (hP : va_P (dC, dI) clA [(m0, .inr (9, [.int mth, .int (nI mt), .ref m1, .ref m2, .int mf, .int (nI mcd), .ref m3, .ref m4, .ref m5, .ref m6, .int (nI mev), .ref m7, .ref m8, .ref m9, .ref m10, .ref m11, .ref m12, .ref m13, .int mwh, .int mps, .ref m14, .ref m15, .long mlr, .int (nI mlt), .int (nI mlm), .ref m16, .int mln, .ref m17])), (m7, .inl (cI, 30, .inl gtr))] H) (hD : va_D A [(m0, .inr (9, [.int mth, .int (nI mt), .ref m1, .ref m2, .int mf, .int (nI mcd), .ref m3, .ref m4, .ref m5, .ref m6, .int (nI mev), .ref m7, .ref m8, .ref m9, .ref m10, .ref m11, .ref m12, .ref m13, .int mwh, .int mps, .ref m14, .ref m15, .long mlr, .int (nI mlt), .int (nI mlm), .ref m16, .int mln, .ref m17])), (m7, .inl (cI, 30, .inl gtr))]) (hS : va_S A s.heap H locs) (hm8 : 8 - i < n8), W p l e (headSpec (Cond.code y_Mo_rankOf prog_11_method_15_code 11 (some .long) :: wsA) { frames := 1, cells := 0, slots := 0, locals := 22 }).room s m ([.ref m0, .int x, .int y] : List Value).toArray below meth c H locs 0 0 Q (F0 m 8 ls []) := by
    clear hl hP hD hS
    intro n8
    induction n8 with
    | zero => intro v3 v5 i hi H locs ls hl hP hD hS hm; exact absurd hm (Nat.not_lt_zero _)
    | succ n8 hloop1_ih =>
      intro v3 v5 i hi H locs ls hl hP hD hS hm8
      refine lv_iload hx hb d_Mo_rankOf_8 (lv_at hl 5 rfl) ?_
      refine lv_bipush (v := 8) hx hb d_Mo_rankOf_10 (by decide) ?_
      refine lv_icmp_ge (tgt := 105) hx hb d_Mo_rankOf_12 (by decide) (fun hb2 => ?_) (fun hb2 => ?_)
      · skip
        replace hb2 := cv_le (a := 8) (b := i) (by omega) (by omega) hb2
        refine lv_lload_n hx hb d_Mo_rankOf_105 rfl (lv_at hl 3 rfl) ?_
        refine lv_bipush (v := 40) hx hb d_Mo_rankOf_106 (by decide) ?_
        refine lv_lshl (v := v3 <<< (Int32.toInt64 40 &&& 63)) hx hb d_Mo_rankOf_108 rfl ?_
        refine lv_lload hx hb d_Mo_rankOf_109 (lv_at hl 4 rfl) ?_
        refine lv_lor hx hb d_Mo_rankOf_111 ?_
        have hP9 := hP.sub (ws' := [(m0, .inr (9, [.int mth, .int (nI mt), .ref m1, .ref m2, .int mf, .int (nI mcd), .ref m3, .ref m4, .ref m5, .ref m6, .int (nI mev), .ref m7, .ref m8, .ref m9, .ref m10, .ref m11, .ref m12, .ref m13, .int mwh, .int mps, .ref m14, .ref m15, .long mlr, .int (nI mlt), .int (nI mlm), .ref m16, .int mln, .ref m17])), (m7, .inl (cI, 30, .inl gtr))]) [0, 1] rfl
        have hD9 := hD.sub (ws' := [(m0, .inr (9, [.int mth, .int (nI mt), .ref m1, .ref m2, .int mf, .int (nI mcd), .ref m3, .ref m4, .ref m5, .ref m6, .int (nI mev), .ref m7, .ref m8, .ref m9, .ref m10, .ref m11, .ref m12, .ref m13, .int mwh, .int mps, .ref m14, .ref m15, .long mlr, .int (nI mlt), .int (nI mlm), .ref m16, .int mln, .ref m17])), (m7, .inl (cI, 30, .inl gtr))]) [0, 1] (by decide) rfl
        subst hQ
        exact W.lret (v := (v3 <<< (Int32.toInt64 40 &&& 63)) ||| v5) hx hb hr (fun t9 ht9 hW => ⟨⟨(v3 <<< (Int32.toInt64 40 &&& 63)) ||| v5, (), rfl, trivial, by rw [ht9]; exact hP9, hD9⟩, hS.F ht9⟩) hS.2.2 d_Mo_rankOf_112
      · skip
        replace hb2 := cv_nle (a := 8) (b := i) (by omega) (by omega) hb2
        refine lv_iload hx hb d_Mo_rankOf_15 (lv_at hl 5 rfl) ?_
        refine lv_iload_n hx hb d_Mo_rankOf_17 rfl (lv_at hl 2 rfl) ?_
        refine lv_icmp_ne (tgt := 25) hx hb d_Mo_rankOf_18 (by decide) (fun hb3 => ?_) (fun hb3 => ?_)
        · skip
          refine lv_lconst (v := 0) hx hb d_Mo_rankOf_25 (by decide) ?_
          refine lv_lstore (lv' := [(8, .long 0), (0, .ref m0), (1, .int x), (2, .int y), (3, .long v3), (5, .long v5), (7, .int (nI i))]) hx hb d_Mo_rankOf_26 hl (by decide) rfl (fun ls hln => ?_)
          replace hl : lv_has ls 11 [(8, .long 0), (0, .ref m0), (1, .int x), (2, .int y), (3, .long v3), (5, .long v5), (7, .int (nI i))] := hln
          clear hln
          refine lv_iconst (v := 0) hx hb d_Mo_rankOf_28 (by decide) ?_
          refine lv_istore (lv' := [(10, .int 0), (8, .long 0), (0, .ref m0), (1, .int x), (2, .int y), (3, .long v3), (5, .long v5), (7, .int (nI i))]) hx hb d_Mo_rankOf_29 hl (by decide) rfl (fun ls hln => ?_)
          replace hl : lv_has ls 11 [(10, .int 0), (8, .long 0), (0, .ref m0), (1, .int x), (2, .int y), (3, .long v3), (5, .long v5), (7, .int (nI i))] := hln
          clear hln
          have hloop4 : ∀ (n31 : Nat) (v8 : Int64) (j : Nat) (hj : j ≤ mev) (H : Heap) (locs : List Loc) (ls : Array Slot) (hl : lv_has ls 11 [(0, .ref m0), (1, .int x), (2, .int y), (3, .long v3), (5, .long v5), (7, .int (nI i)), (8, .long v8), (10, .int (nI j))]) (hP : va_P (dC, dI) clA [(m0, .inr (9, [.int mth, .int (nI mt), .ref m1, .ref m2, .int mf, .int (nI mcd), .ref m3, .ref m4, .ref m5, .ref m6, .int (nI mev), .ref m7, .ref m8, .ref m9, .ref m10, .ref m11, .ref m12, .ref m13, .int mwh, .int mps, .ref m14, .ref m15, .long mlr, .int (nI mlt), .int (nI mlm), .ref m16, .int mln, .ref m17])), (m7, .inl (cI, 30, .inl gtr))] H) (hD : va_D A [(m0, .inr (9, [.int mth, .int (nI mt), .ref m1, .ref m2, .int mf, .int (nI mcd), .ref m3, .ref m4, .ref m5, .ref m6, .int (nI mev), .ref m7, .ref m8, .ref m9, .ref m10, .ref m11, .ref m12, .ref m13, .int mwh, .int mps, .ref m14, .ref m15, .long mlr, .int (nI mlt), .int (nI mlm), .ref m16, .int mln, .ref m17])), (m7, .inl (cI, 30, .inl gtr))]) (hS : va_S A s.heap H locs) (hm31 : mev - j < n31), W p l e (headSpec (Cond.code y_Mo_rankOf prog_11_method_15_code 11 (some .long) :: wsA) { frames := 1, cells := 0, slots := 0, locals := 22 }).room s m ([.ref m0, .int x, .int y] : List Value).toArray below meth c H locs 0 0 Q (F0 m 31 ls []) := by
            clear hl hP hD hS
            intro n31
            induction n31 with
            | zero => intro v8 j hj H locs ls hl hP hD hS hm; exact absurd hm (Nat.not_lt_zero _)
            | succ n31 hloop4_ih =>
              intro v8 j hj H locs ls hl hP hD hS hm31
              refine lv_iload hx hb d_Mo_rankOf_31 (lv_at hl 7 rfl) ?_
              refine lv_aload_n hx hb d_Mo_rankOf_33 rfl (lv_at hl 0 rfl) ?_
              refine va_get (D := (dC, dI)) (ci := 9) (v := .int (nI mev)) (C := "NetUnfolderModel") (T := T_Mo) (N := 28) hx hb ht in_Mo hown hK hP 0 rfl rfl 10 (by decide) (ht _ wd_4_10) (fun _ h9 => h9) rfl d_Mo_rankOf_34 ?_
              refine lv_icmp_ge (tgt := 79) hx hb d_Mo_rankOf_37 (by decide) (fun hb5 => ?_) (fun hb5 => ?_)
              · skip
                replace hb5 := cv_le (a := mev) (b := j) (by omega) (by omega) hb5
                refine lv_lload_n hx hb d_Mo_rankOf_79 rfl (lv_at hl 3 rfl) ?_
                refine lv_lload hx hb d_Mo_rankOf_80 (lv_at hl 6 rfl) ?_
                refine lv_ladd hx hb d_Mo_rankOf_82 ?_
                refine lv_lstore_n (lv' := [(3, .long (v3 + v8)), (0, .ref m0), (1, .int x), (2, .int y), (5, .long v5), (7, .int (nI i)), (8, .long v8), (10, .int (nI j))]) hx hb d_Mo_rankOf_83 rfl hl (by decide) rfl (fun ls hln => ?_)
                replace hl : lv_has ls 11 [(3, .long (v3 + v8)), (0, .ref m0), (1, .int x), (2, .int y), (5, .long v5), (7, .int (nI i)), (8, .long v8), (10, .int (nI j))] := hln
                clear hln
                refine lv_lload hx hb d_Mo_rankOf_84 (lv_at hl 4 rfl) ?_
                refine lv_ldc2 hx hb hown (ht _ wd_4_163) d_Mo_rankOf_86 ?_
                refine lv_lmul hx hb d_Mo_rankOf_89 ?_
                refine lv_ldc2 hx hb hown (ht _ wd_4_164) d_Mo_rankOf_90 ?_
                refine lv_ladd hx hb d_Mo_rankOf_93 ?_
                refine lv_lload hx hb d_Mo_rankOf_94 (lv_at hl 6 rfl) ?_
                refine lv_lsub hx hb d_Mo_rankOf_96 ?_
                refine lv_lstore (lv' := [(5, .long (((v5 * 32) + 31) - v8)), (3, .long (v3 + v8)), (0, .ref m0), (1, .int x), (2, .int y), (7, .int (nI i)), (8, .long v8), (10, .int (nI j))]) hx hb d_Mo_rankOf_97 hl (by decide) rfl (fun ls hln => ?_)
                replace hl : lv_has ls 11 [(5, .long (((v5 * 32) + 31) - v8)), (3, .long (v3 + v8)), (0, .ref m0), (1, .int x), (2, .int y), (7, .int (nI i)), (8, .long v8), (10, .int (nI j))] := hln
                clear hln
                refine lv_iinc (k := 5) (v := nI (i + 1)) (lv' := [(7, .int (nI (i + 1))), (5, .long (((v5 * 32) + 31) - v8)), (3, .long (v3 + v8)), (0, .ref m0), (1, .int x), (2, .int y), (8, .long v8), (10, .int (nI j))]) hx hb d_Mo_rankOf_99 hl rfl (nI_1 _) (by decide) rfl (fun ls hln => ?_)
                replace hl : lv_has ls 11 [(7, .int (nI (i + 1))), (5, .long (((v5 * 32) + 31) - v8)), (3, .long (v3 + v8)), (0, .ref m0), (1, .int x), (2, .int y), (8, .long v8), (10, .int (nI j))] := hln
                clear hln
                refine lv_goto (tgt := 8) hx hb d_Mo_rankOf_102 (by decide) ?_
                exact hloop1_ih (v3 + v8) (((v5 * 32) + 31) - v8) (i + 1) (by first | assumption | omega | trivial | exact AllLt.zero | exact AllN.zero | exact AllM.zero | exact Or.inl rfl | exact Or.inr rfl) _ _ ls (lv_sub hl [3, 4, 5, 2, 1, 0] rfl) (hP.sub [0, 1] rfl) (hD.sub [0, 1] (by decide) rfl) hS (by omega)
              · skip
                replace hb5 := cv_nle (a := mev) (b := j) (by omega) (by omega) hb5
                refine lv_iload_n hx hb d_Mo_rankOf_40 rfl (lv_at hl 1 rfl) ?_
                refine lv_i2l (v := Int32.toInt64 x) hx hb d_Mo_rankOf_41 rfl ?_
                refine lv_iload hx hb d_Mo_rankOf_42 (lv_at hl 7 rfl) ?_
                have hPc : va_P (dC, dI) clA [] _ := pu_P (H := H)
                have hDc : va_D (fun _ => True) [] := pu_D
                have hFc := pu_free hS hA
                refine va_calli (va_runS (As := [.long (Int32.toInt64 x), .int (nI j)]) (rest := []) ⟨hx, hb, hml, hown, ht⟩ (c_Mo_has l dC dI cI cL cZ _ (Int32.toInt64 x) j (by first | assumption | omega | trivial | exact AllLt.zero | exact AllN.zero | exact AllM.zero | exact Or.inl rfl | exact Or.inr rfl)) (va_cwS 2 ht (good_S wd_4_121 wd_4_122 wd_1_10 wd_4_123) rfl rfl rfl (by decide +kernel) ⟨Nat.le_of_ble_eq_true rfl, Nat.le_of_ble_eq_true rfl⟩) ⟨fun a U g mk q => by obtain ⟨q0, q1, qP, qK, qD, qN⟩ := q; exact ⟨q0, q1, qP, va_K.moved (u := U) (U := U.calling g mk a) (Vm.Alike.refl U.vm) qK, qD, NwA.same (u := U) rfl qN⟩, fun U hU hW => ⟨rfl, by rw [hU], by rw [hU]; exact hPc, va_K.moved hW.alike hK, hDc.weaken (fun _ _ _ _ => trivial), NwA.warm hW hN⟩⟩ rfl rfl hl.1 rfl (lv_room (Nat.le_of_ble_eq_true rfl)) d_Mo_rankOf_44 ⟨Nat.le_of_ble_eq_true rfl, Nat.le_of_ble_eq_true rfl⟩) hS (fun q _ h => hFc q h) hFc (fun r8 u9 t9 H6 locs ht9 hvm hw7 hB hz1 hk1 hSn => ?_)
                replace hP : va_P (dC, dI) clA [(m0, .inr (9, [.int mth, .int (nI mt), .ref m1, .ref m2, .int mf, .int (nI mcd), .ref m3, .ref m4, .ref m5, .ref m6, .int (nI mev), .ref m7, .ref m8, .ref m9, .ref m10, .ref m11, .ref m12, .ref m13, .int mwh, .int mps, .ref m14, .ref m15, .long mlr, .int (nI mlt), .int (nI mlm), .ref m16, .int mln, .ref m17])), (m7, .inl (cI, 30, .inl gtr))] H6 := pu_keep hP hk1
                replace hS := hSn
                clear hSn hPc hDc hFc hk1 hz1 ht9 hvm hB
                refine W.cs (cells' := 0) (slots' := 0) rfl rfl ?_
                subst hw7
                refine lv_if_eq (tgt := 69) hx hb d_Mo_rankOf_47 (by decide) (fun hb9 => ?_) (fun hb9 => ?_)
                · skip
                  refine lv_lload hx hb d_Mo_rankOf_69 (lv_at hl 6 rfl) ?_
                  refine lv_lstore (lv' := [(8, .long v8), (0, .ref m0), (1, .int x), (2, .int y), (3, .long v3), (5, .long v5), (7, .int (nI i)), (10, .int (nI j))]) hx hb d_Mo_rankOf_71 hl (by decide) rfl (fun ls hln => ?_)
                  replace hl : lv_has ls 11 [(8, .long v8), (0, .ref m0), (1, .int x), (2, .int y), (3, .long v3), (5, .long v5), (7, .int (nI i)), (10, .int (nI j))] := hln
                  clear hln
                  refine lv_iinc (k := 7) (v := nI (j + 1)) (lv' := [(10, .int (nI (j + 1))), (8, .long v8), (0, .ref m0), (1, .int x), (2, .int y), (3, .long v3), (5, .long v5), (7, .int (nI i))]) hx hb d_Mo_rankOf_73 hl rfl (nI_1 _) (by decide) rfl (fun ls hln => ?_)
                  replace hl : lv_has ls 11 [(10, .int (nI (j + 1))), (8, .long v8), (0, .ref m0), (1, .int x), (2, .int y), (3, .long v3), (5, .long v5), (7, .int (nI i))] := hln
                  clear hln
                  refine lv_goto (tgt := 31) hx hb d_Mo_rankOf_76 (by decide) ?_
                  exact hloop4_ih v8 (j + 1) (by first | assumption | omega | trivial | exact AllLt.zero | exact AllN.zero | exact AllM.zero | exact Or.inl rfl | exact Or.inr rfl) _ _ ls (lv_sub hl [2, 3, 4, 5, 6, 7, 1, 0] rfl) (hP.sub [0, 1] rfl) (hD.sub [0, 1] (by decide) rfl) hS (by omega)
                · skip
                  refine lv_aload_n hx hb d_Mo_rankOf_50 rfl (lv_at hl 0 rfl) ?_
                  refine va_get (D := (dC, dI)) (ci := 9) (v := .ref m7) (C := "NetUnfolderModel") (T := T_Mo) (N := 28) hx hb ht in_Mo hown hK hP 0 rfl rfl 11 (by decide) (ht _ wd_4_11) (fun _ h9 => h9) rfl d_Mo_rankOf_51 ?_
                  refine lv_iload hx hb d_Mo_rankOf_54 (lv_at hl 7 rfl) ?_
                  refine na_iald (k := j) hx hb hK hP 1 0 rfl rfl (by omega) (by decide) d_Mo_rankOf_56 ?_
                  refine lv_iload hx hb d_Mo_rankOf_57 (lv_at hl 5 rfl) ?_
                  refine lv_icmp_ne (tgt := 69) hx hb d_Mo_rankOf_59 (by decide) (fun hb10 => ?_) (fun hb10 => ?_)
                  · skip
                    refine lv_lload hx hb d_Mo_rankOf_69 (lv_at hl 6 rfl) ?_
                    refine lv_lstore (lv' := [(8, .long v8), (0, .ref m0), (1, .int x), (2, .int y), (3, .long v3), (5, .long v5), (7, .int (nI i)), (10, .int (nI j))]) hx hb d_Mo_rankOf_71 hl (by decide) rfl (fun ls hln => ?_)
                    replace hl : lv_has ls 11 [(8, .long v8), (0, .ref m0), (1, .int x), (2, .int y), (3, .long v3), (5, .long v5), (7, .int (nI i)), (10, .int (nI j))] := hln
                    clear hln
                    refine lv_iinc (k := 7) (v := nI (j + 1)) (lv' := [(10, .int (nI (j + 1))), (8, .long v8), (0, .ref m0), (1, .int x), (2, .int y), (3, .long v3), (5, .long v5), (7, .int (nI i))]) hx hb d_Mo_rankOf_73 hl rfl (nI_1 _) (by decide) rfl (fun ls hln => ?_)
                    replace hl : lv_has ls 11 [(10, .int (nI (j + 1))), (8, .long v8), (0, .ref m0), (1, .int x), (2, .int y), (3, .long v3), (5, .long v5), (7, .int (nI i))] := hln
                    clear hln
                    refine lv_goto (tgt := 31) hx hb d_Mo_rankOf_76 (by decide) ?_
                    exact hloop4_ih v8 (j + 1) (by first | assumption | omega | trivial | exact AllLt.zero | exact AllN.zero | exact AllM.zero | exact Or.inl rfl | exact Or.inr rfl) _ _ ls (lv_sub hl [2, 3, 4, 5, 6, 7, 1, 0] rfl) (hP.sub [0, 1] rfl) (hD.sub [0, 1] (by decide) rfl) hS (by omega)
                  · skip
                    refine lv_lload hx hb d_Mo_rankOf_62 (lv_at hl 6 rfl) ?_
                    refine lv_lconst (v := 1) hx hb d_Mo_rankOf_64 (by decide) ?_
                    refine lv_ladd hx hb d_Mo_rankOf_65 ?_
                    refine lv_goto (tgt := 71) hx hb d_Mo_rankOf_66 (by decide) ?_
                    refine lv_lstore (lv' := [(8, .long (v8 + 1)), (0, .ref m0), (1, .int x), (2, .int y), (3, .long v3), (5, .long v5), (7, .int (nI i)), (10, .int (nI j))]) hx hb d_Mo_rankOf_71 hl (by decide) rfl (fun ls hln => ?_)
                    replace hl : lv_has ls 11 [(8, .long (v8 + 1)), (0, .ref m0), (1, .int x), (2, .int y), (3, .long v3), (5, .long v5), (7, .int (nI i)), (10, .int (nI j))] := hln
                    clear hln
                    refine lv_iinc (k := 7) (v := nI (j + 1)) (lv' := [(10, .int (nI (j + 1))), (8, .long (v8 + 1)), (0, .ref m0), (1, .int x), (2, .int y), (3, .long v3), (5, .long v5), (7, .int (nI i))]) hx hb d_Mo_rankOf_73 hl rfl (nI_1 _) (by decide) rfl (fun ls hln => ?_)
                    replace hl : lv_has ls 11 [(10, .int (nI (j + 1))), (8, .long (v8 + 1)), (0, .ref m0), (1, .int x), (2, .int y), (3, .long v3), (5, .long v5), (7, .int (nI i))] := hln
                    clear hln
                    refine lv_goto (tgt := 31) hx hb d_Mo_rankOf_76 (by decide) ?_
                    exact hloop4_ih (v8 + 1) (j + 1) (by first | assumption | omega | trivial | exact AllLt.zero | exact AllN.zero | exact AllM.zero | exact Or.inl rfl | exact Or.inr rfl) _ _ ls (lv_sub hl [2, 3, 4, 5, 6, 7, 1, 0] rfl) (hP.sub [0, 1] rfl) (hD.sub [0, 1] (by decide) rfl) hS (by omega)
          exact hloop4 ((mev - 0) + 1) 0 0 (by first | assumption | omega | trivial | exact AllLt.zero | exact AllN.zero | exact AllM.zero | exact Or.inl rfl | exact Or.inr rfl) _ _ ls (lv_sub hl [2, 3, 4, 5, 6, 7, 1, 0] rfl) hP hD hS (Nat.lt_succ_self _)
        · skip
          refine lv_lconst (v := 1) hx hb d_Mo_rankOf_21 (by decide) ?_
          refine lv_goto (tgt := 26) hx hb d_Mo_rankOf_22 (by decide) ?_
          refine lv_lstore (lv' := [(8, .long 1), (0, .ref m0), (1, .int x), (2, .int y), (3, .long v3), (5, .long v5), (7, .int (nI i))]) hx hb d_Mo_rankOf_26 hl (by decide) rfl (fun ls hln => ?_)
          replace hl : lv_has ls 11 [(8, .long 1), (0, .ref m0), (1, .int x), (2, .int y), (3, .long v3), (5, .long v5), (7, .int (nI i))] := hln
          clear hln
          refine lv_iconst (v := 0) hx hb d_Mo_rankOf_28 (by decide) ?_
          refine lv_istore (lv' := [(10, .int 0), (8, .long 1), (0, .ref m0), (1, .int x), (2, .int y), (3, .long v3), (5, .long v5), (7, .int (nI i))]) hx hb d_Mo_rankOf_29 hl (by decide) rfl (fun ls hln => ?_)
          replace hl : lv_has ls 11 [(10, .int 0), (8, .long 1), (0, .ref m0), (1, .int x), (2, .int y), (3, .long v3), (5, .long v5), (7, .int (nI i))] := hln
          clear hln
          have hloop11 : ∀ (n31 : Nat) (v8 : Int64) (j : Nat) (hj : j ≤ mev) (H : Heap) (locs : List Loc) (ls : Array Slot) (hl : lv_has ls 11 [(0, .ref m0), (1, .int x), (2, .int y), (3, .long v3), (5, .long v5), (7, .int (nI i)), (8, .long v8), (10, .int (nI j))]) (hP : va_P (dC, dI) clA [(m0, .inr (9, [.int mth, .int (nI mt), .ref m1, .ref m2, .int mf, .int (nI mcd), .ref m3, .ref m4, .ref m5, .ref m6, .int (nI mev), .ref m7, .ref m8, .ref m9, .ref m10, .ref m11, .ref m12, .ref m13, .int mwh, .int mps, .ref m14, .ref m15, .long mlr, .int (nI mlt), .int (nI mlm), .ref m16, .int mln, .ref m17])), (m7, .inl (cI, 30, .inl gtr))] H) (hD : va_D A [(m0, .inr (9, [.int mth, .int (nI mt), .ref m1, .ref m2, .int mf, .int (nI mcd), .ref m3, .ref m4, .ref m5, .ref m6, .int (nI mev), .ref m7, .ref m8, .ref m9, .ref m10, .ref m11, .ref m12, .ref m13, .int mwh, .int mps, .ref m14, .ref m15, .long mlr, .int (nI mlt), .int (nI mlm), .ref m16, .int mln, .ref m17])), (m7, .inl (cI, 30, .inl gtr))]) (hS : va_S A s.heap H locs) (hm31 : mev - j < n31), W p l e (headSpec (Cond.code y_Mo_rankOf prog_11_method_15_code 11 (some .long) :: wsA) { frames := 1, cells := 0, slots := 0, locals := 22 }).room s m ([.ref m0, .int x, .int y] : List Value).toArray below meth c H locs 0 0 Q (F0 m 31 ls []) := by
            clear hl hP hD hS
            intro n31
            induction n31 with
            | zero => intro v8 j hj H locs ls hl hP hD hS hm; exact absurd hm (Nat.not_lt_zero _)
            | succ n31 hloop11_ih =>
              intro v8 j hj H locs ls hl hP hD hS hm31
              refine lv_iload hx hb d_Mo_rankOf_31 (lv_at hl 7 rfl) ?_
              refine lv_aload_n hx hb d_Mo_rankOf_33 rfl (lv_at hl 0 rfl) ?_
              refine va_get (D := (dC, dI)) (ci := 9) (v := .int (nI mev)) (C := "NetUnfolderModel") (T := T_Mo) (N := 28) hx hb ht in_Mo hown hK hP 0 rfl rfl 10 (by decide) (ht _ wd_4_10) (fun _ h9 => h9) rfl d_Mo_rankOf_34 ?_
              refine lv_icmp_ge (tgt := 79) hx hb d_Mo_rankOf_37 (by decide) (fun hb12 => ?_) (fun hb12 => ?_)
              · skip
                replace hb12 := cv_le (a := mev) (b := j) (by omega) (by omega) hb12
                refine lv_lload_n hx hb d_Mo_rankOf_79 rfl (lv_at hl 3 rfl) ?_
                refine lv_lload hx hb d_Mo_rankOf_80 (lv_at hl 6 rfl) ?_
                refine lv_ladd hx hb d_Mo_rankOf_82 ?_
                refine lv_lstore_n (lv' := [(3, .long (v3 + v8)), (0, .ref m0), (1, .int x), (2, .int y), (5, .long v5), (7, .int (nI i)), (8, .long v8), (10, .int (nI j))]) hx hb d_Mo_rankOf_83 rfl hl (by decide) rfl (fun ls hln => ?_)
                replace hl : lv_has ls 11 [(3, .long (v3 + v8)), (0, .ref m0), (1, .int x), (2, .int y), (5, .long v5), (7, .int (nI i)), (8, .long v8), (10, .int (nI j))] := hln
                clear hln
                refine lv_lload hx hb d_Mo_rankOf_84 (lv_at hl 4 rfl) ?_
                refine lv_ldc2 hx hb hown (ht _ wd_4_163) d_Mo_rankOf_86 ?_
                refine lv_lmul hx hb d_Mo_rankOf_89 ?_
                refine lv_ldc2 hx hb hown (ht _ wd_4_164) d_Mo_rankOf_90 ?_
                refine lv_ladd hx hb d_Mo_rankOf_93 ?_
                refine lv_lload hx hb d_Mo_rankOf_94 (lv_at hl 6 rfl) ?_
                refine lv_lsub hx hb d_Mo_rankOf_96 ?_
                refine lv_lstore (lv' := [(5, .long (((v5 * 32) + 31) - v8)), (3, .long (v3 + v8)), (0, .ref m0), (1, .int x), (2, .int y), (7, .int (nI i)), (8, .long v8), (10, .int (nI j))]) hx hb d_Mo_rankOf_97 hl (by decide) rfl (fun ls hln => ?_)
                replace hl : lv_has ls 11 [(5, .long (((v5 * 32) + 31) - v8)), (3, .long (v3 + v8)), (0, .ref m0), (1, .int x), (2, .int y), (7, .int (nI i)), (8, .long v8), (10, .int (nI j))] := hln
                clear hln
                refine lv_iinc (k := 5) (v := nI (i + 1)) (lv' := [(7, .int (nI (i + 1))), (5, .long (((v5 * 32) + 31) - v8)), (3, .long (v3 + v8)), (0, .ref m0), (1, .int x), (2, .int y), (8, .long v8), (10, .int (nI j))]) hx hb d_Mo_rankOf_99 hl rfl (nI_1 _) (by decide) rfl (fun ls hln => ?_)
                replace hl : lv_has ls 11 [(7, .int (nI (i + 1))), (5, .long (((v5 * 32) + 31) - v8)), (3, .long (v3 + v8)), (0, .ref m0), (1, .int x), (2, .int y), (8, .long v8), (10, .int (nI j))] := hln
                clear hln
                refine lv_goto (tgt := 8) hx hb d_Mo_rankOf_102 (by decide) ?_
                exact hloop1_ih (v3 + v8) (((v5 * 32) + 31) - v8) (i + 1) (by first | assumption | omega | trivial | exact AllLt.zero | exact AllN.zero | exact AllM.zero | exact Or.inl rfl | exact Or.inr rfl) _ _ ls (lv_sub hl [3, 4, 5, 2, 1, 0] rfl) (hP.sub [0, 1] rfl) (hD.sub [0, 1] (by decide) rfl) hS (by omega)
              · skip
                replace hb12 := cv_nle (a := mev) (b := j) (by omega) (by omega) hb12
                refine lv_iload_n hx hb d_Mo_rankOf_40 rfl (lv_at hl 1 rfl) ?_
                refine lv_i2l (v := Int32.toInt64 x) hx hb d_Mo_rankOf_41 rfl ?_
                refine lv_iload hx hb d_Mo_rankOf_42 (lv_at hl 7 rfl) ?_
                have hPc : va_P (dC, dI) clA [] _ := pu_P (H := H)
                have hDc : va_D (fun _ => True) [] := pu_D
                have hFc := pu_free hS hA
                refine va_calli (va_runS (As := [.long (Int32.toInt64 x), .int (nI j)]) (rest := []) ⟨hx, hb, hml, hown, ht⟩ (c_Mo_has l dC dI cI cL cZ _ (Int32.toInt64 x) j (by first | assumption | omega | trivial | exact AllLt.zero | exact AllN.zero | exact AllM.zero | exact Or.inl rfl | exact Or.inr rfl)) (va_cwS 2 ht (good_S wd_4_121 wd_4_122 wd_1_10 wd_4_123) rfl rfl rfl (by decide +kernel) ⟨Nat.le_of_ble_eq_true rfl, Nat.le_of_ble_eq_true rfl⟩) ⟨fun a U g mk q => by obtain ⟨q0, q1, qP, qK, qD, qN⟩ := q; exact ⟨q0, q1, qP, va_K.moved (u := U) (U := U.calling g mk a) (Vm.Alike.refl U.vm) qK, qD, NwA.same (u := U) rfl qN⟩, fun U hU hW => ⟨rfl, by rw [hU], by rw [hU]; exact hPc, va_K.moved hW.alike hK, hDc.weaken (fun _ _ _ _ => trivial), NwA.warm hW hN⟩⟩ rfl rfl hl.1 rfl (lv_room (Nat.le_of_ble_eq_true rfl)) d_Mo_rankOf_44 ⟨Nat.le_of_ble_eq_true rfl, Nat.le_of_ble_eq_true rfl⟩) hS (fun q _ h => hFc q h) hFc (fun r15 u9 t9 H13 locs ht9 hvm hw14 hB hz1 hk1 hSn => ?_)
                replace hP : va_P (dC, dI) clA [(m0, .inr (9, [.int mth, .int (nI mt), .ref m1, .ref m2, .int mf, .int (nI mcd), .ref m3, .ref m4, .ref m5, .ref m6, .int (nI mev), .ref m7, .ref m8, .ref m9, .ref m10, .ref m11, .ref m12, .ref m13, .int mwh, .int mps, .ref m14, .ref m15, .long mlr, .int (nI mlt), .int (nI mlm), .ref m16, .int mln, .ref m17])), (m7, .inl (cI, 30, .inl gtr))] H13 := pu_keep hP hk1
                replace hS := hSn
                clear hSn hPc hDc hFc hk1 hz1 ht9 hvm hB
                refine W.cs (cells' := 0) (slots' := 0) rfl rfl ?_
                subst hw14
                refine lv_if_eq (tgt := 69) hx hb d_Mo_rankOf_47 (by decide) (fun hb16 => ?_) (fun hb16 => ?_)
                · skip
                  refine lv_lload hx hb d_Mo_rankOf_69 (lv_at hl 6 rfl) ?_
                  refine lv_lstore (lv' := [(8, .long v8), (0, .ref m0), (1, .int x), (2, .int y), (3, .long v3), (5, .long v5), (7, .int (nI i)), (10, .int (nI j))]) hx hb d_Mo_rankOf_71 hl (by decide) rfl (fun ls hln => ?_)
                  replace hl : lv_has ls 11 [(8, .long v8), (0, .ref m0), (1, .int x), (2, .int y), (3, .long v3), (5, .long v5), (7, .int (nI i)), (10, .int (nI j))] := hln
                  clear hln
                  refine lv_iinc (k := 7) (v := nI (j + 1)) (lv' := [(10, .int (nI (j + 1))), (8, .long v8), (0, .ref m0), (1, .int x), (2, .int y), (3, .long v3), (5, .long v5), (7, .int (nI i))]) hx hb d_Mo_rankOf_73 hl rfl (nI_1 _) (by decide) rfl (fun ls hln => ?_)
                  replace hl : lv_has ls 11 [(10, .int (nI (j + 1))), (8, .long v8), (0, .ref m0), (1, .int x), (2, .int y), (3, .long v3), (5, .long v5), (7, .int (nI i))] := hln
                  clear hln
                  refine lv_goto (tgt := 31) hx hb d_Mo_rankOf_76 (by decide) ?_
                  exact hloop11_ih v8 (j + 1) (by first | assumption | omega | trivial | exact AllLt.zero | exact AllN.zero | exact AllM.zero | exact Or.inl rfl | exact Or.inr rfl) _ _ ls (lv_sub hl [2, 3, 4, 5, 6, 7, 1, 0] rfl) (hP.sub [0, 1] rfl) (hD.sub [0, 1] (by decide) rfl) hS (by omega)
                · skip
                  refine lv_aload_n hx hb d_Mo_rankOf_50 rfl (lv_at hl 0 rfl) ?_
                  refine va_get (D := (dC, dI)) (ci := 9) (v := .ref m7) (C := "NetUnfolderModel") (T := T_Mo) (N := 28) hx hb ht in_Mo hown hK hP 0 rfl rfl 11 (by decide) (ht _ wd_4_11) (fun _ h9 => h9) rfl d_Mo_rankOf_51 ?_
                  refine lv_iload hx hb d_Mo_rankOf_54 (lv_at hl 7 rfl) ?_
                  refine na_iald (k := j) hx hb hK hP 1 0 rfl rfl (by omega) (by decide) d_Mo_rankOf_56 ?_
                  refine lv_iload hx hb d_Mo_rankOf_57 (lv_at hl 5 rfl) ?_
                  refine lv_icmp_ne (tgt := 69) hx hb d_Mo_rankOf_59 (by decide) (fun hb17 => ?_) (fun hb17 => ?_)
                  · skip
                    refine lv_lload hx hb d_Mo_rankOf_69 (lv_at hl 6 rfl) ?_
                    refine lv_lstore (lv' := [(8, .long v8), (0, .ref m0), (1, .int x), (2, .int y), (3, .long v3), (5, .long v5), (7, .int (nI i)), (10, .int (nI j))]) hx hb d_Mo_rankOf_71 hl (by decide) rfl (fun ls hln => ?_)
                    replace hl : lv_has ls 11 [(8, .long v8), (0, .ref m0), (1, .int x), (2, .int y), (3, .long v3), (5, .long v5), (7, .int (nI i)), (10, .int (nI j))] := hln
                    clear hln
                    refine lv_iinc (k := 7) (v := nI (j + 1)) (lv' := [(10, .int (nI (j + 1))), (8, .long v8), (0, .ref m0), (1, .int x), (2, .int y), (3, .long v3), (5, .long v5), (7, .int (nI i))]) hx hb d_Mo_rankOf_73 hl rfl (nI_1 _) (by decide) rfl (fun ls hln => ?_)
                    replace hl : lv_has ls 11 [(10, .int (nI (j + 1))), (8, .long v8), (0, .ref m0), (1, .int x), (2, .int y), (3, .long v3), (5, .long v5), (7, .int (nI i))] := hln
                    clear hln
                    refine lv_goto (tgt := 31) hx hb d_Mo_rankOf_76 (by decide) ?_
                    exact hloop11_ih v8 (j + 1) (by first | assumption | omega | trivial | exact AllLt.zero | exact AllN.zero | exact AllM.zero | exact Or.inl rfl | exact Or.inr rfl) _ _ ls (lv_sub hl [2, 3, 4, 5, 6, 7, 1, 0] rfl) (hP.sub [0, 1] rfl) (hD.sub [0, 1] (by decide) rfl) hS (by omega)
                  · skip
                    refine lv_lload hx hb d_Mo_rankOf_62 (lv_at hl 6 rfl) ?_
                    refine lv_lconst (v := 1) hx hb d_Mo_rankOf_64 (by decide) ?_
                    refine lv_ladd hx hb d_Mo_rankOf_65 ?_
                    refine lv_goto (tgt := 71) hx hb d_Mo_rankOf_66 (by decide) ?_
                    refine lv_lstore (lv' := [(8, .long (v8 + 1)), (0, .ref m0), (1, .int x), (2, .int y), (3, .long v3), (5, .long v5), (7, .int (nI i)), (10, .int (nI j))]) hx hb d_Mo_rankOf_71 hl (by decide) rfl (fun ls hln => ?_)
                    replace hl : lv_has ls 11 [(8, .long (v8 + 1)), (0, .ref m0), (1, .int x), (2, .int y), (3, .long v3), (5, .long v5), (7, .int (nI i)), (10, .int (nI j))] := hln
                    clear hln
                    refine lv_iinc (k := 7) (v := nI (j + 1)) (lv' := [(10, .int (nI (j + 1))), (8, .long (v8 + 1)), (0, .ref m0), (1, .int x), (2, .int y), (3, .long v3), (5, .long v5), (7, .int (nI i))]) hx hb d_Mo_rankOf_73 hl rfl (nI_1 _) (by decide) rfl (fun ls hln => ?_)
                    replace hl : lv_has ls 11 [(10, .int (nI (j + 1))), (8, .long (v8 + 1)), (0, .ref m0), (1, .int x), (2, .int y), (3, .long v3), (5, .long v5), (7, .int (nI i))] := hln
                    clear hln
                    refine lv_goto (tgt := 31) hx hb d_Mo_rankOf_76 (by decide) ?_
                    exact hloop11_ih (v8 + 1) (j + 1) (by first | assumption | omega | trivial | exact AllLt.zero | exact AllN.zero | exact AllM.zero | exact Or.inl rfl | exact Or.inr rfl) _ _ ls (lv_sub hl [2, 3, 4, 5, 6, 7, 1, 0] rfl) (hP.sub [0, 1] rfl) (hD.sub [0, 1] (by decide) rfl) hS (by omega)
          exact hloop11 ((mev - 0) + 1) 1 0 (by first | assumption | omega | trivial | exact AllLt.zero | exact AllN.zero | exact AllM.zero | exact Or.inl rfl | exact Or.inr rfl) _ _ ls (lv_sub hl [2, 3, 4, 5, 6, 7, 1, 0] rfl) hP hD hS (Nat.lt_succ_self _)
  exact hloop1 ((8 - 0) + 1) 1 0 0 (by first | assumption | omega | trivial | exact AllLt.zero | exact AllN.zero | exact AllM.zero | exact Or.inl rfl | exact Or.inr rfl) _ _ ls (lv_sub hl [3, 4, 5, 2, 1, 0] rfl) hP hD hS (Nat.lt_succ_self _)

set_option maxHeartbeats 4000000 in
set_option maxRecDepth 100000 in
theorem c_Mo_isThere (l : Launch) (dC : Nat → ClassId) (dI : Nat → Nat → Nat) (cI cL cZ : ClassId) (sz : Nat) (m0 : Nat) (m1 : Nat) (m2 : Nat) (m3 : Nat) (m4 : Nat) (m5 : Nat) (m6 : Nat) (m7 : Nat) (m8 : Nat) (m9 : Nat) (m10 : Nat) (m11 : Nat) (m12 : Nat) (m13 : Nat) (m14 : Nat) (m15 : Nat) (m16 : Nat) (m17 : Nat) (mth : Int32) (mt : Nat) (mf : Int32) (mcd : Nat) (mev : Nat) (mwh : Int32) (mps : Int32) (mlr : Int64) (mlt : Nat) (mlm : Nat) (mln : Int32) (gtr : Nat → Int32) (gtn : Nat → Int64) (gch : Nat → Int32) (x : Int32) (n : Nat) (hev : mev ≤ 30) (hn8 : n ≤ 8) : Met l y_Mo_isThere (Cond.code y_Mo_isThere prog_11_method_18_code 7 (some .boolean) :: wsA) { frames := 1, cells := 0, slots := 0, locals := 24 } (va_Pc [.ref m0, .int x, .int (nI n)] (fun U => U.heap.size = sz ∧ va_P (dC, dI) clA [(m0, .inr (9, [.int mth, .int (nI mt), .ref m1, .ref m2, .int mf, .int (nI mcd), .ref m3, .ref m4, .ref m5, .ref m6, .int (nI mev), .ref m7, .ref m8, .ref m9, .ref m10, .ref m11, .ref m12, .ref m13, .int mwh, .int mps, .ref m14, .ref m15, .long mlr, .int (nI mlt), .int (nI mlm), .ref m16, .int mln, .ref m17])), (m7, .inl (cI, 30, .inl gtr)), (m9, .inl (cL, 30, .inr (.inl gtn))), (m14, .inl (cI, 8, .inl gch))] U.heap ∧ va_K (dC, dI) clA [(cI, .int), (cL, .long), (cZ, .boolean)] U ∧ va_D (fun _ => True) [(m0, .inr (9, [.int mth, .int (nI mt), .ref m1, .ref m2, .int mf, .int (nI mcd), .ref m3, .ref m4, .ref m5, .ref m6, .int (nI mev), .ref m7, .ref m8, .ref m9, .ref m10, .ref m11, .ref m12, .ref m13, .int mwh, .int mps, .ref m14, .ref m15, .long mlr, .int (nI mlt), .int (nI mlm), .ref m16, .int mln, .ref m17])), (m7, .inl (cI, 30, .inl gtr)), (m9, .inl (cL, 30, .inr (.inl gtn))), (m14, .inl (cI, 8, .inl gch))] ∧ NwA U)) (va_Qi (fun r (_ : Unit) => (r = 0 ∨ r = 1)) (fun _ t => va_P (dC, dI) clA [(m0, .inr (9, [.int mth, .int (nI mt), .ref m1, .ref m2, .int mf, .int (nI mcd), .ref m3, .ref m4, .ref m5, .ref m6, .int (nI mev), .ref m7, .ref m8, .ref m9, .ref m10, .ref m11, .ref m12, .ref m13, .int mwh, .int mps, .ref m14, .ref m15, .long mlr, .int (nI mlt), .int (nI mlm), .ref m16, .int mln, .ref m17])), (m7, .inl (cI, 30, .inl gtr)), (m9, .inl (cL, 30, .inr (.inl gtn))), (m14, .inl (cI, 8, .inl gch))] t.heap ∧ va_D (va_A [(m0, .inr (9, [.int mth, .int (nI mt), .ref m1, .ref m2, .int mf, .int (nI mcd), .ref m3, .ref m4, .ref m5, .ref m6, .int (nI mev), .ref m7, .ref m8, .ref m9, .ref m10, .ref m11, .ref m12, .ref m13, .int mwh, .int mps, .ref m14, .ref m15, .long mlr, .int (nI mlt), .int (nI mlm), .ref m16, .int mln, .ref m17])), (m7, .inl (cI, 30, .inl gtr)), (m9, .inl (cL, 30, .inr (.inl gtn))), (m14, .inl (cI, 8, .inl gch))] sz) [(m0, .inr (9, [.int mth, .int (nI mt), .ref m1, .ref m2, .int mf, .int (nI mcd), .ref m3, .ref m4, .ref m5, .ref m6, .int (nI mev), .ref m7, .ref m8, .ref m9, .ref m10, .ref m11, .ref m12, .ref m13, .int mwh, .int mps, .ref m14, .ref m15, .long mlr, .int (nI mlt), .int (nI mlm), .ref m16, .int mln, .ref m17])), (m7, .inl (cI, 30, .inl gtr)), (m9, .inl (cL, 30, .inr (.inl gtn))), (m14, .inl (cI, 8, .inl gch))]) (va_A [(m0, .inr (9, [.int mth, .int (nI mt), .ref m1, .ref m2, .int mf, .int (nI mcd), .ref m3, .ref m4, .ref m5, .ref m6, .int (nI mev), .ref m7, .ref m8, .ref m9, .ref m10, .ref m11, .ref m12, .ref m13, .int mwh, .int mps, .ref m14, .ref m15, .long mlr, .int (nI mlt), .int (nI mlm), .ref m16, .int mln, .ref m17])), (m7, .inl (cI, 30, .inl gtr)), (m9, .inl (cL, 30, .inr (.inl gtn))), (m14, .inl (cI, 8, .inl gch))] sz)) 0 0 (va_A [(m0, .inr (9, [.int mth, .int (nI mt), .ref m1, .ref m2, .int mf, .int (nI mcd), .ref m3, .ref m4, .ref m5, .ref m6, .int (nI mev), .ref m7, .ref m8, .ref m9, .ref m10, .ref m11, .ref m12, .ref m13, .int mwh, .int mps, .ref m14, .ref m15, .long mlr, .int (nI mlt), .int (nI mlm), .ref m16, .int mln, .ref m17])), (m7, .inl (cI, 30, .inl gtr)), (m9, .inl (cL, 30, .inr (.inl gtn))), (m14, .inl (cI, 8, .inl gch))] sz) := by
  refine Met.ofW (cc := prog_11_method_18_code) (maxL := 7) (ret := (some .boolean)) (by decide) rfl ?_
  intro p e s m args below meth c s₁ B hml hv
  obtain ⟨rfl, hsz, hP, hK, hD0, hN⟩ := hv
  have hx := B.exec
  have hb := B.bytes
  have hr := B.returns
  have ht : ∀ w ∈ wsA, w.before _ s = true := fun w h => atoms_spec (ws := (Cond.code y_Mo_isThere prog_11_method_18_code 7 (some .boolean) :: wsA)) B.pre w (List.mem_cons_of_mem _ h)
  have hown : s.vm.findClass "NetUnfolderModel" = some m.cls := findClass_of_methodNamed B.named
  have hlocks := B.notSynchronized
  subst hsz
  have hD := hD0.self (sz := s.heap.size)
  generalize hAe : va_A [(m0, .inr (9, [.int mth, .int (nI mt), .ref m1, .ref m2, .int mf, .int (nI mcd), .ref m3, .ref m4, .ref m5, .ref m6, .int (nI mev), .ref m7, .ref m8, .ref m9, .ref m10, .ref m11, .ref m12, .ref m13, .int mwh, .int mps, .ref m14, .ref m15, .long mlr, .int (nI mlt), .int (nI mlm), .ref m16, .int mln, .ref m17])), (m7, .inl (cI, 30, .inl gtr)), (m9, .inl (cL, 30, .inr (.inl gtn))), (m14, .inl (cI, 8, .inl gch))] s.heap.size = A at hD ⊢
  have hA : ∀ q : Nat, s.heap.size ≤ q → A q := fun q h => by rw [← hAe]; exact Or.inr h
  have hS : va_S A s.heap s.heap [] := va_S.rf
  have hl := lv_entry ([.ref m0, .int x, .int (nI n)]) (n := 7) (Nat.le_of_ble_eq_true rfl)
  rw [lg_entry_eq]
  generalize (lg_sl ([.ref m0, .int x, .int (nI n)]) ++ List.replicate (7 - (lg_sl ([.ref m0, .int x, .int (nI n)])).length) Slot.unset).toArray = ls at hl ⊢
  replace hl : lv_has ls 7 [(0, .ref m0), (1, .int x), (2, .int (nI n))] := hl
  refine W_Q (fun Q hQ => ?_)
  refine lv_aload_n hx hb d_Mo_isThere_0 rfl (lv_at hl 0 rfl) ?_
  refine lv_iload_n hx hb d_Mo_isThere_1 rfl (lv_at hl 2 rfl) ?_
  have hPc := hP.sub (ws' := [(m0, .inr (9, [.int mth, .int (nI mt), .ref m1, .ref m2, .int mf, .int (nI mcd), .ref m3, .ref m4, .ref m5, .ref m6, .int (nI mev), .ref m7, .ref m8, .ref m9, .ref m10, .ref m11, .ref m12, .ref m13, .int mwh, .int mps, .ref m14, .ref m15, .long mlr, .int (nI mlt), .int (nI mlm), .ref m16, .int mln, .ref m17])), (m14, .inl (cI, 8, .inl gch))]) [0, 3] rfl
  have hDc := hD.sub (ws' := [(m0, .inr (9, [.int mth, .int (nI mt), .ref m1, .ref m2, .int mf, .int (nI mcd), .ref m3, .ref m4, .ref m5, .ref m6, .int (nI mev), .ref m7, .ref m8, .ref m9, .ref m10, .ref m11, .ref m12, .ref m13, .int mwh, .int mps, .ref m14, .ref m15, .long mlr, .int (nI mlt), .int (nI mlm), .ref m16, .int mln, .ref m17])), (m14, .inl (cI, 8, .inl gch))]) [0, 3] (by decide) rfl
  have hFc := va_free (wc := [(m0, .inr (9, [.int mth, .int (nI mt), .ref m1, .ref m2, .int mf, .int (nI mcd), .ref m3, .ref m4, .ref m5, .ref m6, .int (nI mev), .ref m7, .ref m8, .ref m9, .ref m10, .ref m11, .ref m12, .ref m13, .int mwh, .int mps, .ref m14, .ref m15, .long mlr, .int (nI mlt), .int (nI mlm), .ref m16, .int mln, .ref m17])), (m14, .inl (cI, 8, .inl gch))]) hD hS hA [0, 3] rfl
  refine va_calll (va_runV (C := "NetUnfolderModel") (As := [.int (nI n)]) (rest := []) ⟨hx, hb, hml, hown, ht⟩ (c_Mo_setOf l dC dI cI cL cZ _ m0 m1 m2 m3 m4 m5 m6 m7 m8 m9 m10 m11 m12 m13 m14 m15 m16 m17 mth mt mf mcd mev mwh mps mlr mlt mlm mln gch n (by first | assumption | omega | trivial | exact AllLt.zero | exact AllN.zero | exact AllM.zero | exact Or.inl rfl | exact Or.inr rfl)) (cwV 1 ht (good_V wd_4_151 wd_4_153 ws_Mo_setOf wd_1_10 wd_4_154) rfl rfl rfl (by decide +kernel) ⟨Nat.le_of_ble_eq_true rfl, Nat.le_of_ble_eq_true rfl⟩) ⟨fun a U g mk q => by obtain ⟨q0, q1, qP, qK, qD, qN⟩ := q; exact ⟨q0, q1, qP, va_K.moved (u := U) (U := U.calling g mk a) (Vm.Alike.refl U.vm) qK, qD, NwA.same (u := U) rfl qN⟩, (va_recv (q0 := 0) (ci := 9) hK hP rfl rfl), fun U hU hW => ⟨rfl, by rw [hU], by rw [hU]; exact hPc, va_K.moved hW.alike hK, hDc.weaken (fun _ _ _ _ => trivial), NwA.warm hW hN⟩⟩ rfl rfl hl.1 rfl (lv_room (Nat.le_of_ble_eq_true rfl)) d_Mo_isThere_2 ⟨Nat.le_of_ble_eq_true rfl, Nat.le_of_ble_eq_true rfl⟩) hS (fun q _ h => hFc q h) hFc (fun r3 u9 t9 H1 locs ht9 hvm hw2 hB hz1 hk1 hSn => ?_)
  obtain ⟨hP1, hD1⟩ := hB
  rw [ht9] at hP1
  obtain ⟨hPn, hDn⟩ := va_join (wr := [(m7, .inl (cI, 30, .inl gtr)), (m9, .inl (cL, 30, .inr (.inl gtn)))]) (w1 := [(m0, .inr (9, [.int mth, .int (nI mt), .ref m1, .ref m2, .int mf, .int (nI mcd), .ref m3, .ref m4, .ref m5, .ref m6, .int (nI mev), .ref m7, .ref m8, .ref m9, .ref m10, .ref m11, .ref m12, .ref m13, .int mwh, .int mps, .ref m14, .ref m15, .long mlr, .int (nI mlt), .int (nI mlm), .ref m16, .int mln, .ref m17])), (m14, .inl (cI, 8, .inl gch))]) hP hD [0, 3] [1, 2] rfl rfl (by decide) (by decide) hk1 hFc hP1 hD1
  replace hP : va_P (dC, dI) clA [(m7, .inl (cI, 30, .inl gtr)), (m9, .inl (cL, 30, .inr (.inl gtn))), (m0, .inr (9, [.int mth, .int (nI mt), .ref m1, .ref m2, .int mf, .int (nI mcd), .ref m3, .ref m4, .ref m5, .ref m6, .int (nI mev), .ref m7, .ref m8, .ref m9, .ref m10, .ref m11, .ref m12, .ref m13, .int mwh, .int mps, .ref m14, .ref m15, .long mlr, .int (nI mlt), .int (nI mlm), .ref m16, .int mln, .ref m17])), (m14, .inl (cI, 8, .inl gch))] H1 := hPn
  replace hD : va_D A [(m7, .inl (cI, 30, .inl gtr)), (m9, .inl (cL, 30, .inr (.inl gtn))), (m0, .inr (9, [.int mth, .int (nI mt), .ref m1, .ref m2, .int mf, .int (nI mcd), .ref m3, .ref m4, .ref m5, .ref m6, .int (nI mev), .ref m7, .ref m8, .ref m9, .ref m10, .ref m11, .ref m12, .ref m13, .int mwh, .int mps, .ref m14, .ref m15, .long mlr, .int (nI mlt), .int (nI mlm), .ref m16, .int mln, .ref m17])), (m14, .inl (cI, 8, .inl gch))] := hDn
  replace hS := hSn
  clear hPn hDn hSn
  clear hPc hDc hFc hP1 hD1 hk1 hz1 ht9 hvm
  refine W.cs (cells' := 0) (slots' := 0) rfl rfl ?_
  refine lv_lstore_n (lv' := [(3, .long r3), (0, .ref m0), (1, .int x), (2, .int (nI n))]) hx hb d_Mo_isThere_5 rfl hl (by decide) rfl (fun ls hln => ?_)
  replace hl : lv_has ls 7 [(3, .long r3), (0, .ref m0), (1, .int x), (2, .int (nI n))] := hln
  clear hln
  refine lv_iconst (v := 0) hx hb d_Mo_isThere_6 (by decide) ?_
  refine lv_istore (lv' := [(5, .int 0), (3, .long r3), (0, .ref m0), (1, .int x), (2, .int (nI n))]) hx hb d_Mo_isThere_7 hl (by decide) rfl (fun ls hln => ?_)
  replace hl : lv_has ls 7 [(5, .int 0), (3, .long r3), (0, .ref m0), (1, .int x), (2, .int (nI n))] := hln
  clear hln
  refine lv_iconst (v := 0) hx hb d_Mo_isThere_9 (by decide) ?_
  refine lv_istore (lv' := [(6, .int 0), (5, .int 0), (3, .long r3), (0, .ref m0), (1, .int x), (2, .int (nI n))]) hx hb d_Mo_isThere_10 hl (by decide) rfl (fun ls hln => ?_)
  replace hl : lv_has ls 7 [(6, .int 0), (5, .int 0), (3, .long r3), (0, .ref m0), (1, .int x), (2, .int (nI n))] := hln
  clear hln
  have hloop4 : ∀ (n12 : Nat) (v : Int32) (i : Nat) (v3 : Int64) (hi : i ≤ mev) (hv : v = 0 ∨ v = 1) (H : Heap) (locs : List Loc) (ls : Array Slot) (hl : lv_has ls 7 [(0, .ref m0), (1, .int x), (2, .int (nI n)), (3, .long v3), (5, .int v), (6, .int (nI i))]) (hP : va_P (dC, dI) clA [(m7, .inl (cI, 30, .inl gtr)), (m9, .inl (cL, 30, .inr (.inl gtn))), (m0, .inr (9, [.int mth, .int (nI mt), .ref m1, .ref m2, .int mf, .int (nI mcd), .ref m3, .ref m4, .ref m5, .ref m6, .int (nI mev), .ref m7, .ref m8, .ref m9, .ref m10, .ref m11, .ref m12, .ref m13, .int mwh, .int mps, .ref m14, .ref m15, .long mlr, .int (nI mlt), .int (nI mlm), .ref m16, .int mln, .ref m17])), (m14, .inl (cI, 8, .inl gch))] H) (hD : va_D A [(m7, .inl (cI, 30, .inl gtr)), (m9, .inl (cL, 30, .inr (.inl gtn))), (m0, .inr (9, [.int mth, .int (nI mt), .ref m1, .ref m2, .int mf, .int (nI mcd), .ref m3, .ref m4, .ref m5, .ref m6, .int (nI mev), .ref m7, .ref m8, .ref m9, .ref m10, .ref m11, .ref m12, .ref m13, .int mwh, .int mps, .ref m14, .ref m15, .long mlr, .int (nI mlt), .int (nI mlm), .ref m16, .int mln, .ref m17])), (m14, .inl (cI, 8, .inl gch))]) (hS : va_S A s.heap H locs) (hm12 : mev - i < n12), W p l e (headSpec (Cond.code y_Mo_isThere prog_11_method_18_code 7 (some .boolean) :: wsA) { frames := 1, cells := 0, slots := 0, locals := 24 }).room s m ([.ref m0, .int x, .int (nI n)] : List Value).toArray below meth c H locs 0 0 Q (F0 m 12 ls []) := by
    clear hl hP hD hS
    intro n12
    induction n12 with
    | zero => intro v i v3 hi hv H locs ls hl hP hD hS hm; exact absurd hm (Nat.not_lt_zero _)
    | succ n12 hloop4_ih =>
      intro v i v3 hi hv H locs ls hl hP hD hS hm12
      refine lv_iload hx hb d_Mo_isThere_12 (lv_at hl 5 rfl) ?_
      refine lv_aload_n hx hb d_Mo_isThere_14 rfl (lv_at hl 0 rfl) ?_
      refine va_get (D := (dC, dI)) (ci := 9) (v := .int (nI mev)) (C := "NetUnfolderModel") (T := T_Mo) (N := 28) hx hb ht in_Mo hown hK hP 2 rfl rfl 10 (by decide) (ht _ wd_4_10) (fun _ h9 => h9) rfl d_Mo_isThere_15 ?_
      refine lv_icmp_ge (tgt := 62) hx hb d_Mo_isThere_18 (by decide) (fun hb5 => ?_) (fun hb5 => ?_)
      · skip
        replace hb5 := cv_le (a := mev) (b := i) (by omega) (by omega) hb5
        refine lv_iload hx hb d_Mo_isThere_62 (lv_at hl 4 rfl) ?_
        have hP9 := hP.sub (ws' := [(m0, .inr (9, [.int mth, .int (nI mt), .ref m1, .ref m2, .int mf, .int (nI mcd), .ref m3, .ref m4, .ref m5, .ref m6, .int (nI mev), .ref m7, .ref m8, .ref m9, .ref m10, .ref m11, .ref m12, .ref m13, .int mwh, .int mps, .ref m14, .ref m15, .long mlr, .int (nI mlt), .int (nI mlm), .ref m16, .int mln, .ref m17])), (m7, .inl (cI, 30, .inl gtr)), (m9, .inl (cL, 30, .inr (.inl gtn))), (m14, .inl (cI, 8, .inl gch))]) [2, 0, 1, 3] rfl
        have hD9 := hD.sub (ws' := [(m0, .inr (9, [.int mth, .int (nI mt), .ref m1, .ref m2, .int mf, .int (nI mcd), .ref m3, .ref m4, .ref m5, .ref m6, .int (nI mev), .ref m7, .ref m8, .ref m9, .ref m10, .ref m11, .ref m12, .ref m13, .int mwh, .int mps, .ref m14, .ref m15, .long mlr, .int (nI mlt), .int (nI mlm), .ref m16, .int mln, .ref m17])), (m7, .inl (cI, 30, .inl gtr)), (m9, .inl (cL, 30, .inr (.inl gtn))), (m14, .inl (cI, 8, .inl gch))]) [2, 0, 1, 3] (by decide) rfl
        subst hQ
        exact W.zret (v := v) hx hb hr (bz_nar (by assumption)) (fun t9 ht9 hW => ⟨⟨v, (), rfl, hv, by rw [ht9]; exact hP9, hD9⟩, hS.F ht9⟩) hS.2.2 d_Mo_isThere_64
      · skip
        replace hb5 := cv_nle (a := mev) (b := i) (by omega) (by omega) hb5
        refine lv_iload hx hb d_Mo_isThere_21 (lv_at hl 4 rfl) ?_
        refine lv_if_ne (tgt := 49) hx hb d_Mo_isThere_23 (by decide) (fun hb6 => ?_) (fun hb6 => ?_)
        · skip
          refine lv_iconst (v := 1) hx hb d_Mo_isThere_49 (by decide) ?_
          refine lv_goto (tgt := 54) hx hb d_Mo_isThere_50 (by decide) ?_
          refine lv_istore (lv' := [(5, .int 1), (0, .ref m0), (1, .int x), (2, .int (nI n)), (3, .long v3), (6, .int (nI i))]) hx hb d_Mo_isThere_54 hl (by decide) rfl (fun ls hln => ?_)
          replace hl : lv_has ls 7 [(5, .int 1), (0, .ref m0), (1, .int x), (2, .int (nI n)), (3, .long v3), (6, .int (nI i))] := hln
          clear hln
          refine lv_iinc (k := 5) (v := nI (i + 1)) (lv' := [(6, .int (nI (i + 1))), (5, .int 1), (0, .ref m0), (1, .int x), (2, .int (nI n)), (3, .long v3)]) hx hb d_Mo_isThere_56 hl rfl (nI_1 _) (by decide) rfl (fun ls hln => ?_)
          replace hl : lv_has ls 7 [(6, .int (nI (i + 1))), (5, .int 1), (0, .ref m0), (1, .int x), (2, .int (nI n)), (3, .long v3)] := hln
          clear hln
          refine lv_goto (tgt := 12) hx hb d_Mo_isThere_59 (by decide) ?_
          exact hloop4_ih 1 (i + 1) v3 (by first | assumption | omega | trivial | exact AllLt.zero | exact AllN.zero | exact AllM.zero | exact Or.inl rfl | exact Or.inr rfl) (by first | assumption | omega | trivial | exact AllLt.zero | exact AllN.zero | exact AllM.zero | exact Or.inl rfl | exact Or.inr rfl) _ _ ls (lv_sub hl [2, 3, 4, 5, 1, 0] rfl) (hP.sub [0, 1, 2, 3] rfl) (hD.sub [0, 1, 2, 3] (by decide) rfl) hS (by omega)
        · skip
          refine lv_aload_n hx hb d_Mo_isThere_26 rfl (lv_at hl 0 rfl) ?_
          refine va_get (D := (dC, dI)) (ci := 9) (v := .ref m7) (C := "NetUnfolderModel") (T := T_Mo) (N := 28) hx hb ht in_Mo hown hK hP 2 rfl rfl 11 (by decide) (ht _ wd_4_11) (fun _ h9 => h9) rfl d_Mo_isThere_27 ?_
          refine lv_iload hx hb d_Mo_isThere_30 (lv_at hl 5 rfl) ?_
          refine na_iald (k := i) hx hb hK hP 0 0 rfl rfl (by omega) (by decide) d_Mo_isThere_32 ?_
          refine lv_iload_n hx hb d_Mo_isThere_33 rfl (lv_at hl 1 rfl) ?_
          refine lv_icmp_ne (tgt := 53) hx hb d_Mo_isThere_34 (by decide) (fun hb7 => ?_) (fun hb7 => ?_)
          · skip
            refine lv_iconst (v := 0) hx hb d_Mo_isThere_53 (by decide) ?_
            refine lv_istore (lv' := [(5, .int 0), (0, .ref m0), (1, .int x), (2, .int (nI n)), (3, .long v3), (6, .int (nI i))]) hx hb d_Mo_isThere_54 hl (by decide) rfl (fun ls hln => ?_)
            replace hl : lv_has ls 7 [(5, .int 0), (0, .ref m0), (1, .int x), (2, .int (nI n)), (3, .long v3), (6, .int (nI i))] := hln
            clear hln
            refine lv_iinc (k := 5) (v := nI (i + 1)) (lv' := [(6, .int (nI (i + 1))), (5, .int 0), (0, .ref m0), (1, .int x), (2, .int (nI n)), (3, .long v3)]) hx hb d_Mo_isThere_56 hl rfl (nI_1 _) (by decide) rfl (fun ls hln => ?_)
            replace hl : lv_has ls 7 [(6, .int (nI (i + 1))), (5, .int 0), (0, .ref m0), (1, .int x), (2, .int (nI n)), (3, .long v3)] := hln
            clear hln
            refine lv_goto (tgt := 12) hx hb d_Mo_isThere_59 (by decide) ?_
            exact hloop4_ih 0 (i + 1) v3 (by first | assumption | omega | trivial | exact AllLt.zero | exact AllN.zero | exact AllM.zero | exact Or.inl rfl | exact Or.inr rfl) (by first | assumption | omega | trivial | exact AllLt.zero | exact AllN.zero | exact AllM.zero | exact Or.inl rfl | exact Or.inr rfl) _ _ ls (lv_sub hl [2, 3, 4, 5, 1, 0] rfl) (hP.sub [0, 1, 2, 3] rfl) (hD.sub [0, 1, 2, 3] (by decide) rfl) hS (by omega)
          · skip
            refine lv_aload_n hx hb d_Mo_isThere_37 rfl (lv_at hl 0 rfl) ?_
            refine va_get (D := (dC, dI)) (ci := 9) (v := .ref m9) (C := "NetUnfolderModel") (T := T_Mo) (N := 28) hx hb ht in_Mo hown hK hP 2 rfl rfl 13 (by decide) (ht _ wd_4_13) (fun _ h9 => h9) rfl d_Mo_isThere_38 ?_
            refine lv_iload hx hb d_Mo_isThere_41 (lv_at hl 5 rfl) ?_
            refine na_lald (k := i) hx hb hK hP 1 1 rfl rfl (by omega) (by decide) d_Mo_isThere_43 ?_
            refine lv_lload_n hx hb d_Mo_isThere_44 rfl (lv_at hl 3 rfl) ?_
            refine W.lcmp hx hb d_Mo_isThere_45 ?_
            refine lv_if_ne (tgt := 53) hx hb d_Mo_isThere_46 (by decide) (fun hb8 => ?_) (fun hb8 => ?_)
            · skip
              refine lv_iconst (v := 0) hx hb d_Mo_isThere_53 (by decide) ?_
              refine lv_istore (lv' := [(5, .int 0), (0, .ref m0), (1, .int x), (2, .int (nI n)), (3, .long v3), (6, .int (nI i))]) hx hb d_Mo_isThere_54 hl (by decide) rfl (fun ls hln => ?_)
              replace hl : lv_has ls 7 [(5, .int 0), (0, .ref m0), (1, .int x), (2, .int (nI n)), (3, .long v3), (6, .int (nI i))] := hln
              clear hln
              refine lv_iinc (k := 5) (v := nI (i + 1)) (lv' := [(6, .int (nI (i + 1))), (5, .int 0), (0, .ref m0), (1, .int x), (2, .int (nI n)), (3, .long v3)]) hx hb d_Mo_isThere_56 hl rfl (nI_1 _) (by decide) rfl (fun ls hln => ?_)
              replace hl : lv_has ls 7 [(6, .int (nI (i + 1))), (5, .int 0), (0, .ref m0), (1, .int x), (2, .int (nI n)), (3, .long v3)] := hln
              clear hln
              refine lv_goto (tgt := 12) hx hb d_Mo_isThere_59 (by decide) ?_
              exact hloop4_ih 0 (i + 1) v3 (by first | assumption | omega | trivial | exact AllLt.zero | exact AllN.zero | exact AllM.zero | exact Or.inl rfl | exact Or.inr rfl) (by first | assumption | omega | trivial | exact AllLt.zero | exact AllN.zero | exact AllM.zero | exact Or.inl rfl | exact Or.inr rfl) _ _ ls (lv_sub hl [2, 3, 4, 5, 1, 0] rfl) (hP.sub [0, 1, 2, 3] rfl) (hD.sub [0, 1, 2, 3] (by decide) rfl) hS (by omega)
            · skip
              refine lv_iconst (v := 1) hx hb d_Mo_isThere_49 (by decide) ?_
              refine lv_goto (tgt := 54) hx hb d_Mo_isThere_50 (by decide) ?_
              refine lv_istore (lv' := [(5, .int 1), (0, .ref m0), (1, .int x), (2, .int (nI n)), (3, .long v3), (6, .int (nI i))]) hx hb d_Mo_isThere_54 hl (by decide) rfl (fun ls hln => ?_)
              replace hl : lv_has ls 7 [(5, .int 1), (0, .ref m0), (1, .int x), (2, .int (nI n)), (3, .long v3), (6, .int (nI i))] := hln
              clear hln
              refine lv_iinc (k := 5) (v := nI (i + 1)) (lv' := [(6, .int (nI (i + 1))), (5, .int 1), (0, .ref m0), (1, .int x), (2, .int (nI n)), (3, .long v3)]) hx hb d_Mo_isThere_56 hl rfl (nI_1 _) (by decide) rfl (fun ls hln => ?_)
              replace hl : lv_has ls 7 [(6, .int (nI (i + 1))), (5, .int 1), (0, .ref m0), (1, .int x), (2, .int (nI n)), (3, .long v3)] := hln
              clear hln
              refine lv_goto (tgt := 12) hx hb d_Mo_isThere_59 (by decide) ?_
              exact hloop4_ih 1 (i + 1) v3 (by first | assumption | omega | trivial | exact AllLt.zero | exact AllN.zero | exact AllM.zero | exact Or.inl rfl | exact Or.inr rfl) (by first | assumption | omega | trivial | exact AllLt.zero | exact AllN.zero | exact AllM.zero | exact Or.inl rfl | exact Or.inr rfl) _ _ ls (lv_sub hl [2, 3, 4, 5, 1, 0] rfl) (hP.sub [0, 1, 2, 3] rfl) (hD.sub [0, 1, 2, 3] (by decide) rfl) hS (by omega)
  exact hloop4 ((mev - 0) + 1) 0 0 r3 (by first | assumption | omega | trivial | exact AllLt.zero | exact AllN.zero | exact AllM.zero | exact Or.inl rfl | exact Or.inr rfl) (by first | assumption | omega | trivial | exact AllLt.zero | exact AllN.zero | exact AllM.zero | exact Or.inl rfl | exact Or.inr rfl) _ _ ls (lv_sub hl [3, 4, 5, 2, 1, 0] rfl) hP hD hS (Nat.lt_succ_self _)

set_option maxHeartbeats 4000000 in
set_option maxRecDepth 100000 in
theorem c_Mo_found (l : Launch) (dC : Nat → ClassId) (dI : Nat → Nat → Nat) (cI cL cZ : ClassId) (sz : Nat) (m0 : Nat) (m1 : Nat) (m2 : Nat) (m3 : Nat) (m4 : Nat) (m5 : Nat) (m6 : Nat) (m7 : Nat) (m8 : Nat) (m9 : Nat) (m10 : Nat) (m11 : Nat) (m12 : Nat) (m13 : Nat) (m14 : Nat) (m15 : Nat) (m16 : Nat) (m17 : Nat) (mth : Int32) (mt : Nat) (mf : Int32) (mcd : Nat) (mev : Nat) (mwh : Int32) (mps : Int32) (mlr : Int64) (mlt : Nat) (mlm : Nat) (mln : Int32) (gbh : Nat → Int32) (gtr : Nat → Int32) (gtn : Nat → Int64) (gch : Nat → Int32) (gle : Nat → Int32) (k : Nat) (n : Nat) (hev : mev ≤ 30) (hn8 : n ≤ 8) (hgch : AllLt gch n 60) (hk : k < 8) (hlt : mlt < 8) (hlm : mlm ≤ 8) (hgle : AllLt gle 8 60) : Met l y_Mo_found (Cond.code y_Mo_found prog_11_method_19_code 6 none :: wsA) { frames := 2, cells := 0, slots := 0, locals := 52 } (va_Pc [.ref m0, .int (nI k), .int (nI n)] (fun U => U.heap.size = sz ∧ va_P (dC, dI) clA [(m0, .inr (9, [.int mth, .int (nI mt), .ref m1, .ref m2, .int mf, .int (nI mcd), .ref m3, .ref m4, .ref m5, .ref m6, .int (nI mev), .ref m7, .ref m8, .ref m9, .ref m10, .ref m11, .ref m12, .ref m13, .int mwh, .int mps, .ref m14, .ref m15, .long mlr, .int (nI mlt), .int (nI mlm), .ref m16, .int mln, .ref m17])), (m5, .inl (cI, 60, .inl gbh)), (m7, .inl (cI, 30, .inl gtr)), (m9, .inl (cL, 30, .inr (.inl gtn))), (m14, .inl (cI, 8, .inl gch)), (m16, .inl (cI, 8, .inl gle))] U.heap ∧ va_K (dC, dI) clA [(cI, .int), (cL, .long), (cZ, .boolean)] U ∧ va_D (fun _ => True) [(m0, .inr (9, [.int mth, .int (nI mt), .ref m1, .ref m2, .int mf, .int (nI mcd), .ref m3, .ref m4, .ref m5, .ref m6, .int (nI mev), .ref m7, .ref m8, .ref m9, .ref m10, .ref m11, .ref m12, .ref m13, .int mwh, .int mps, .ref m14, .ref m15, .long mlr, .int (nI mlt), .int (nI mlm), .ref m16, .int mln, .ref m17])), (m5, .inl (cI, 60, .inl gbh)), (m7, .inl (cI, 30, .inl gtr)), (m9, .inl (cL, 30, .inr (.inl gtn))), (m14, .inl (cI, 8, .inl gch)), (m16, .inl (cI, 8, .inl gle))] ∧ NwA U)) (va_Qv (fun _ : Unit => True) (fun _ t => ∃ (mps1 : Int32), ∃ (mlr1 : Int64), ∃ (mlt1 : Nat), ∃ (mlm1 : Nat), ∃ (gle1 : Nat → Int32), (mlt1 < 8) ∧ (mlm1 ≤ 8) ∧ (AllLt gle1 8 60) ∧ va_P (dC, dI) clA [(m0, .inr (9, [.int mth, .int (nI mt), .ref m1, .ref m2, .int mf, .int (nI mcd), .ref m3, .ref m4, .ref m5, .ref m6, .int (nI mev), .ref m7, .ref m8, .ref m9, .ref m10, .ref m11, .ref m12, .ref m13, .int mwh, .int mps1, .ref m14, .ref m15, .long mlr1, .int (nI mlt1), .int (nI mlm1), .ref m16, .int mln, .ref m17])), (m5, .inl (cI, 60, .inl gbh)), (m7, .inl (cI, 30, .inl gtr)), (m9, .inl (cL, 30, .inr (.inl gtn))), (m14, .inl (cI, 8, .inl gch)), (m16, .inl (cI, 8, .inl gle1))] t.heap ∧ va_D (va_A [(m0, .inr (9, [.int mth, .int (nI mt), .ref m1, .ref m2, .int mf, .int (nI mcd), .ref m3, .ref m4, .ref m5, .ref m6, .int (nI mev), .ref m7, .ref m8, .ref m9, .ref m10, .ref m11, .ref m12, .ref m13, .int mwh, .int mps, .ref m14, .ref m15, .long mlr, .int (nI mlt), .int (nI mlm), .ref m16, .int mln, .ref m17])), (m5, .inl (cI, 60, .inl gbh)), (m7, .inl (cI, 30, .inl gtr)), (m9, .inl (cL, 30, .inr (.inl gtn))), (m14, .inl (cI, 8, .inl gch)), (m16, .inl (cI, 8, .inl gle))] sz) [(m0, .inr (9, [.int mth, .int (nI mt), .ref m1, .ref m2, .int mf, .int (nI mcd), .ref m3, .ref m4, .ref m5, .ref m6, .int (nI mev), .ref m7, .ref m8, .ref m9, .ref m10, .ref m11, .ref m12, .ref m13, .int mwh, .int mps1, .ref m14, .ref m15, .long mlr1, .int (nI mlt1), .int (nI mlm1), .ref m16, .int mln, .ref m17])), (m5, .inl (cI, 60, .inl gbh)), (m7, .inl (cI, 30, .inl gtr)), (m9, .inl (cL, 30, .inr (.inl gtn))), (m14, .inl (cI, 8, .inl gch)), (m16, .inl (cI, 8, .inl gle1))]) (va_A [(m0, .inr (9, [.int mth, .int (nI mt), .ref m1, .ref m2, .int mf, .int (nI mcd), .ref m3, .ref m4, .ref m5, .ref m6, .int (nI mev), .ref m7, .ref m8, .ref m9, .ref m10, .ref m11, .ref m12, .ref m13, .int mwh, .int mps, .ref m14, .ref m15, .long mlr, .int (nI mlt), .int (nI mlm), .ref m16, .int mln, .ref m17])), (m5, .inl (cI, 60, .inl gbh)), (m7, .inl (cI, 30, .inl gtr)), (m9, .inl (cL, 30, .inr (.inl gtn))), (m14, .inl (cI, 8, .inl gch)), (m16, .inl (cI, 8, .inl gle))] sz)) 0 0 (va_A [(m0, .inr (9, [.int mth, .int (nI mt), .ref m1, .ref m2, .int mf, .int (nI mcd), .ref m3, .ref m4, .ref m5, .ref m6, .int (nI mev), .ref m7, .ref m8, .ref m9, .ref m10, .ref m11, .ref m12, .ref m13, .int mwh, .int mps, .ref m14, .ref m15, .long mlr, .int (nI mlt), .int (nI mlm), .ref m16, .int mln, .ref m17])), (m5, .inl (cI, 60, .inl gbh)), (m7, .inl (cI, 30, .inl gtr)), (m9, .inl (cL, 30, .inr (.inl gtn))), (m14, .inl (cI, 8, .inl gch)), (m16, .inl (cI, 8, .inl gle))] sz) := by
  refine Met.ofW (cc := prog_11_method_19_code) (maxL := 6) (ret := none) (by decide) rfl ?_
  intro p e s m args below meth c s₁ B hml hv
  obtain ⟨rfl, hsz, hP, hK, hD0, hN⟩ := hv
  have hx := B.exec
  have hb := B.bytes
  have hr := B.returns
  have ht : ∀ w ∈ wsA, w.before _ s = true := fun w h => atoms_spec (ws := (Cond.code y_Mo_found prog_11_method_19_code 6 none :: wsA)) B.pre w (List.mem_cons_of_mem _ h)
  have hown : s.vm.findClass "NetUnfolderModel" = some m.cls := findClass_of_methodNamed B.named
  have hlocks := B.notSynchronized
  subst hsz
  have hD := hD0.self (sz := s.heap.size)
  generalize hAe : va_A [(m0, .inr (9, [.int mth, .int (nI mt), .ref m1, .ref m2, .int mf, .int (nI mcd), .ref m3, .ref m4, .ref m5, .ref m6, .int (nI mev), .ref m7, .ref m8, .ref m9, .ref m10, .ref m11, .ref m12, .ref m13, .int mwh, .int mps, .ref m14, .ref m15, .long mlr, .int (nI mlt), .int (nI mlm), .ref m16, .int mln, .ref m17])), (m5, .inl (cI, 60, .inl gbh)), (m7, .inl (cI, 30, .inl gtr)), (m9, .inl (cL, 30, .inr (.inl gtn))), (m14, .inl (cI, 8, .inl gch)), (m16, .inl (cI, 8, .inl gle))] s.heap.size = A at hD ⊢
  have hA : ∀ q : Nat, s.heap.size ≤ q → A q := fun q h => by rw [← hAe]; exact Or.inr h
  have hS : va_S A s.heap s.heap [] := va_S.rf
  have hl := lv_entry ([.ref m0, .int (nI k), .int (nI n)]) (n := 6) (Nat.le_of_ble_eq_true rfl)
  rw [lg_entry_eq]
  generalize (lg_sl ([.ref m0, .int (nI k), .int (nI n)]) ++ List.replicate (6 - (lg_sl ([.ref m0, .int (nI k), .int (nI n)])).length) Slot.unset).toArray = ls at hl ⊢
  replace hl : lv_has ls 6 [(0, .ref m0), (1, .int (nI k)), (2, .int (nI n))] := hl
  refine W_Q (fun Q hQ => ?_)
  refine lv_aload_n hx hb d_Mo_found_0 rfl (lv_at hl 0 rfl) ?_
  refine lv_iload_n hx hb d_Mo_found_1 rfl (lv_at hl 1 rfl) ?_
  refine lv_iload_n hx hb d_Mo_found_2 rfl (lv_at hl 2 rfl) ?_
  have hPc := hP.sub (ws' := [(m0, .inr (9, [.int mth, .int (nI mt), .ref m1, .ref m2, .int mf, .int (nI mcd), .ref m3, .ref m4, .ref m5, .ref m6, .int (nI mev), .ref m7, .ref m8, .ref m9, .ref m10, .ref m11, .ref m12, .ref m13, .int mwh, .int mps, .ref m14, .ref m15, .long mlr, .int (nI mlt), .int (nI mlm), .ref m16, .int mln, .ref m17])), (m7, .inl (cI, 30, .inl gtr)), (m9, .inl (cL, 30, .inr (.inl gtn))), (m14, .inl (cI, 8, .inl gch))]) [0, 2, 3, 4] rfl
  have hDc := hD.sub (ws' := [(m0, .inr (9, [.int mth, .int (nI mt), .ref m1, .ref m2, .int mf, .int (nI mcd), .ref m3, .ref m4, .ref m5, .ref m6, .int (nI mev), .ref m7, .ref m8, .ref m9, .ref m10, .ref m11, .ref m12, .ref m13, .int mwh, .int mps, .ref m14, .ref m15, .long mlr, .int (nI mlt), .int (nI mlm), .ref m16, .int mln, .ref m17])), (m7, .inl (cI, 30, .inl gtr)), (m9, .inl (cL, 30, .inr (.inl gtn))), (m14, .inl (cI, 8, .inl gch))]) [0, 2, 3, 4] (by decide) rfl
  have hFc := va_free (wc := [(m0, .inr (9, [.int mth, .int (nI mt), .ref m1, .ref m2, .int mf, .int (nI mcd), .ref m3, .ref m4, .ref m5, .ref m6, .int (nI mev), .ref m7, .ref m8, .ref m9, .ref m10, .ref m11, .ref m12, .ref m13, .int mwh, .int mps, .ref m14, .ref m15, .long mlr, .int (nI mlt), .int (nI mlm), .ref m16, .int mln, .ref m17])), (m7, .inl (cI, 30, .inl gtr)), (m9, .inl (cL, 30, .inr (.inl gtn))), (m14, .inl (cI, 8, .inl gch))]) hD hS hA [0, 2, 3, 4] rfl
  refine va_calli (va_runV (C := "NetUnfolderModel") (As := [.int (nI k), .int (nI n)]) (rest := []) ⟨hx, hb, hml, hown, ht⟩ (c_Mo_isThere l dC dI cI cL cZ _ m0 m1 m2 m3 m4 m5 m6 m7 m8 m9 m10 m11 m12 m13 m14 m15 m16 m17 mth mt mf mcd mev mwh mps mlr mlt mlm mln gtr gtn gch (nI k) n (by first | assumption | omega | trivial | exact AllLt.zero | exact AllN.zero | exact AllM.zero | exact Or.inl rfl | exact Or.inr rfl) (by first | assumption | omega | trivial | exact AllLt.zero | exact AllN.zero | exact AllM.zero | exact Or.inl rfl | exact Or.inr rfl)) (cwV 2 ht (good_V wd_4_147 wd_4_149 ws_Mo_isThere wd_1_10 wd_4_150) rfl rfl rfl (by decide +kernel) ⟨Nat.le_of_ble_eq_true rfl, Nat.le_of_ble_eq_true rfl⟩) ⟨fun a U g mk q => by obtain ⟨q0, q1, qP, qK, qD, qN⟩ := q; exact ⟨q0, q1, qP, va_K.moved (u := U) (U := U.calling g mk a) (Vm.Alike.refl U.vm) qK, qD, NwA.same (u := U) rfl qN⟩, (va_recv (q0 := 0) (ci := 9) hK hP rfl rfl), fun U hU hW => ⟨rfl, by rw [hU], by rw [hU]; exact hPc, va_K.moved hW.alike hK, hDc.weaken (fun _ _ _ _ => trivial), NwA.warm hW hN⟩⟩ rfl rfl hl.1 rfl (lv_room (Nat.le_of_ble_eq_true rfl)) d_Mo_found_3 ⟨Nat.le_of_ble_eq_true rfl, Nat.le_of_ble_eq_true rfl⟩) hS (fun q _ h => hFc q h) hFc (fun r3 u9 t9 H1 locs ht9 hvm hw2 hB hz1 hk1 hSn => ?_)
  obtain ⟨hP1, hD1⟩ := hB
  rw [ht9] at hP1
  obtain ⟨hPn, hDn⟩ := va_join (wr := [(m5, .inl (cI, 60, .inl gbh)), (m16, .inl (cI, 8, .inl gle))]) (w1 := [(m0, .inr (9, [.int mth, .int (nI mt), .ref m1, .ref m2, .int mf, .int (nI mcd), .ref m3, .ref m4, .ref m5, .ref m6, .int (nI mev), .ref m7, .ref m8, .ref m9, .ref m10, .ref m11, .ref m12, .ref m13, .int mwh, .int mps, .ref m14, .ref m15, .long mlr, .int (nI mlt), .int (nI mlm), .ref m16, .int mln, .ref m17])), (m7, .inl (cI, 30, .inl gtr)), (m9, .inl (cL, 30, .inr (.inl gtn))), (m14, .inl (cI, 8, .inl gch))]) hP hD [0, 2, 3, 4] [1, 5] rfl rfl (by decide) (by decide) hk1 hFc hP1 hD1
  replace hP : va_P (dC, dI) clA [(m5, .inl (cI, 60, .inl gbh)), (m16, .inl (cI, 8, .inl gle)), (m0, .inr (9, [.int mth, .int (nI mt), .ref m1, .ref m2, .int mf, .int (nI mcd), .ref m3, .ref m4, .ref m5, .ref m6, .int (nI mev), .ref m7, .ref m8, .ref m9, .ref m10, .ref m11, .ref m12, .ref m13, .int mwh, .int mps, .ref m14, .ref m15, .long mlr, .int (nI mlt), .int (nI mlm), .ref m16, .int mln, .ref m17])), (m7, .inl (cI, 30, .inl gtr)), (m9, .inl (cL, 30, .inr (.inl gtn))), (m14, .inl (cI, 8, .inl gch))] H1 := hPn
  replace hD : va_D A [(m5, .inl (cI, 60, .inl gbh)), (m16, .inl (cI, 8, .inl gle)), (m0, .inr (9, [.int mth, .int (nI mt), .ref m1, .ref m2, .int mf, .int (nI mcd), .ref m3, .ref m4, .ref m5, .ref m6, .int (nI mev), .ref m7, .ref m8, .ref m9, .ref m10, .ref m11, .ref m12, .ref m13, .int mwh, .int mps, .ref m14, .ref m15, .long mlr, .int (nI mlt), .int (nI mlm), .ref m16, .int mln, .ref m17])), (m7, .inl (cI, 30, .inl gtr)), (m9, .inl (cL, 30, .inr (.inl gtn))), (m14, .inl (cI, 8, .inl gch))] := hDn
  replace hS := hSn
  clear hPn hDn hSn
  clear hPc hDc hFc hP1 hD1 hk1 hz1 ht9 hvm
  refine W.cs (cells' := 0) (slots' := 0) rfl rfl ?_
  have hr4 := hw2
  refine lv_if_eq (tgt := 10) hx hb d_Mo_found_6 (by decide) (fun hb5 => ?_) (fun hb5 => ?_)
  · skip
    refine lv_aload_n hx hb d_Mo_found_10 rfl (lv_at hl 0 rfl) ?_
    refine lv_dup hx hb d_Mo_found_11 rfl ?_
    refine va_get (D := (dC, dI)) (ci := 9) (v := .int mps) (C := "NetUnfolderModel") (T := T_Mo) (N := 28) hx hb ht in_Mo hown hK hP 2 rfl rfl 19 (by decide) (ht _ wd_4_19) (fun _ h9 => h9) rfl d_Mo_found_12 ?_
    refine lv_iconst (v := 1) hx hb d_Mo_found_15 (by decide) ?_
    refine lv_iadd hx hb d_Mo_found_16 ?_
    refine va_put (D := (dC, dI)) (ci := 9) (v := .int (mps + 1)) (ty := .int) (C := "NetUnfolderModel") (T := T_Mo) (N := 28) hx hb ht in_Mo ty_Mo ok_Mo nm_Mo hown hK hP hD hS 2 rfl rfl 19 (by decide) (ht _ wd_4_19) (fun _ h9 => h9) rfl (by decide +kernel) rfl rfl (Nat.le_of_ble_eq_true rfl) d_Mo_found_17 (fun H6 locs hPn hDn hSn => ?_)
    replace hP : va_P (dC, dI) clA [(m5, .inl (cI, 60, .inl gbh)), (m16, .inl (cI, 8, .inl gle)), (m0, .inr (9, [.int mth, .int (nI mt), .ref m1, .ref m2, .int mf, .int (nI mcd), .ref m3, .ref m4, .ref m5, .ref m6, .int (nI mev), .ref m7, .ref m8, .ref m9, .ref m10, .ref m11, .ref m12, .ref m13, .int mwh, .int (mps + 1), .ref m14, .ref m15, .long mlr, .int (nI mlt), .int (nI mlm), .ref m16, .int mln, .ref m17])), (m7, .inl (cI, 30, .inl gtr)), (m9, .inl (cL, 30, .inr (.inl gtn))), (m14, .inl (cI, 8, .inl gch))] H6 := hPn
    replace hD : va_D A [(m5, .inl (cI, 60, .inl gbh)), (m16, .inl (cI, 8, .inl gle)), (m0, .inr (9, [.int mth, .int (nI mt), .ref m1, .ref m2, .int mf, .int (nI mcd), .ref m3, .ref m4, .ref m5, .ref m6, .int (nI mev), .ref m7, .ref m8, .ref m9, .ref m10, .ref m11, .ref m12, .ref m13, .int mwh, .int (mps + 1), .ref m14, .ref m15, .long mlr, .int (nI mlt), .int (nI mlm), .ref m16, .int mln, .ref m17])), (m7, .inl (cI, 30, .inl gtr)), (m9, .inl (cL, 30, .inr (.inl gtn))), (m14, .inl (cI, 8, .inl gch))] := hDn
    replace hS := hSn
    clear hPn hDn hSn
    refine lv_aload_n hx hb d_Mo_found_20 rfl (lv_at hl 0 rfl) ?_
    refine lv_aload_n hx hb d_Mo_found_21 rfl (lv_at hl 0 rfl) ?_
    refine lv_iload_n hx hb d_Mo_found_22 rfl (lv_at hl 2 rfl) ?_
    have hPc := hP.sub (ws' := [(m0, .inr (9, [.int mth, .int (nI mt), .ref m1, .ref m2, .int mf, .int (nI mcd), .ref m3, .ref m4, .ref m5, .ref m6, .int (nI mev), .ref m7, .ref m8, .ref m9, .ref m10, .ref m11, .ref m12, .ref m13, .int mwh, .int (mps + 1), .ref m14, .ref m15, .long mlr, .int (nI mlt), .int (nI mlm), .ref m16, .int mln, .ref m17])), (m5, .inl (cI, 60, .inl gbh)), (m14, .inl (cI, 8, .inl gch))]) [2, 0, 5] rfl
    have hDc := hD.sub (ws' := [(m0, .inr (9, [.int mth, .int (nI mt), .ref m1, .ref m2, .int mf, .int (nI mcd), .ref m3, .ref m4, .ref m5, .ref m6, .int (nI mev), .ref m7, .ref m8, .ref m9, .ref m10, .ref m11, .ref m12, .ref m13, .int mwh, .int (mps + 1), .ref m14, .ref m15, .long mlr, .int (nI mlt), .int (nI mlm), .ref m16, .int mln, .ref m17])), (m5, .inl (cI, 60, .inl gbh)), (m14, .inl (cI, 8, .inl gch))]) [2, 0, 5] (by decide) rfl
    have hFc := va_free (wc := [(m0, .inr (9, [.int mth, .int (nI mt), .ref m1, .ref m2, .int mf, .int (nI mcd), .ref m3, .ref m4, .ref m5, .ref m6, .int (nI mev), .ref m7, .ref m8, .ref m9, .ref m10, .ref m11, .ref m12, .ref m13, .int mwh, .int (mps + 1), .ref m14, .ref m15, .long mlr, .int (nI mlt), .int (nI mlm), .ref m16, .int mln, .ref m17])), (m5, .inl (cI, 60, .inl gbh)), (m14, .inl (cI, 8, .inl gch))]) hD hS hA [2, 0, 5] rfl
    refine va_calli (va_runV (C := "NetUnfolderModel") (As := [.int (nI n)]) (rest := [.ref m0]) ⟨hx, hb, hml, hown, ht⟩ (c_Mo_behindAll l dC dI cI cL cZ _ m0 m1 m2 m3 m4 m5 m6 m7 m8 m9 m10 m11 m12 m13 m14 m15 m16 m17 mth mt mf mcd mev mwh (mps + 1) mlr mlt mlm mln gbh gch n (by first | assumption | omega | trivial | exact AllLt.zero | exact AllN.zero | exact AllM.zero | exact Or.inl rfl | exact Or.inr rfl) (by first | assumption | omega | trivial | exact AllLt.zero | exact AllN.zero | exact AllM.zero | exact Or.inl rfl | exact Or.inr rfl)) (cwV 1 ht (good_V wd_4_155 wd_4_157 ws_Mo_behindAll wd_1_10 wd_4_158) rfl rfl rfl (by decide +kernel) ⟨Nat.le_of_ble_eq_true rfl, Nat.le_of_ble_eq_true rfl⟩) ⟨fun a U g mk q => by obtain ⟨q0, q1, qP, qK, qD, qN⟩ := q; exact ⟨q0, q1, qP, va_K.moved (u := U) (U := U.calling g mk a) (Vm.Alike.refl U.vm) qK, qD, NwA.same (u := U) rfl qN⟩, (va_recv (q0 := 2) (ci := 9) hK hP rfl rfl), fun U hU hW => ⟨rfl, by rw [hU], by rw [hU]; exact hPc, va_K.moved hW.alike hK, hDc.weaken (fun _ _ _ _ => trivial), NwA.warm hW hN⟩⟩ rfl rfl hl.1 rfl (lv_room (Nat.le_of_ble_eq_true rfl)) d_Mo_found_23 ⟨Nat.le_of_ble_eq_true rfl, Nat.le_of_ble_eq_true rfl⟩) hS (fun q _ h => hFc q h) hFc (fun r9 u9 t9 H7 locs ht9 hvm hw8 hB hz1 hk1 hSn => ?_)
    obtain ⟨hP1, hD1⟩ := hB
    rw [ht9] at hP1
    obtain ⟨hPn, hDn⟩ := va_join (wr := [(m16, .inl (cI, 8, .inl gle)), (m7, .inl (cI, 30, .inl gtr)), (m9, .inl (cL, 30, .inr (.inl gtn)))]) (w1 := [(m0, .inr (9, [.int mth, .int (nI mt), .ref m1, .ref m2, .int mf, .int (nI mcd), .ref m3, .ref m4, .ref m5, .ref m6, .int (nI mev), .ref m7, .ref m8, .ref m9, .ref m10, .ref m11, .ref m12, .ref m13, .int mwh, .int (mps + 1), .ref m14, .ref m15, .long mlr, .int (nI mlt), .int (nI mlm), .ref m16, .int mln, .ref m17])), (m5, .inl (cI, 60, .inl gbh)), (m14, .inl (cI, 8, .inl gch))]) hP hD [2, 0, 5] [1, 3, 4] rfl rfl (by decide) (by decide) hk1 hFc hP1 hD1
    replace hP : va_P (dC, dI) clA [(m16, .inl (cI, 8, .inl gle)), (m7, .inl (cI, 30, .inl gtr)), (m9, .inl (cL, 30, .inr (.inl gtn))), (m0, .inr (9, [.int mth, .int (nI mt), .ref m1, .ref m2, .int mf, .int (nI mcd), .ref m3, .ref m4, .ref m5, .ref m6, .int (nI mev), .ref m7, .ref m8, .ref m9, .ref m10, .ref m11, .ref m12, .ref m13, .int mwh, .int (mps + 1), .ref m14, .ref m15, .long mlr, .int (nI mlt), .int (nI mlm), .ref m16, .int mln, .ref m17])), (m5, .inl (cI, 60, .inl gbh)), (m14, .inl (cI, 8, .inl gch))] H7 := hPn
    replace hD : va_D A [(m16, .inl (cI, 8, .inl gle)), (m7, .inl (cI, 30, .inl gtr)), (m9, .inl (cL, 30, .inr (.inl gtn))), (m0, .inr (9, [.int mth, .int (nI mt), .ref m1, .ref m2, .int mf, .int (nI mcd), .ref m3, .ref m4, .ref m5, .ref m6, .int (nI mev), .ref m7, .ref m8, .ref m9, .ref m10, .ref m11, .ref m12, .ref m13, .int mwh, .int (mps + 1), .ref m14, .ref m15, .long mlr, .int (nI mlt), .int (nI mlm), .ref m16, .int mln, .ref m17])), (m5, .inl (cI, 60, .inl gbh)), (m14, .inl (cI, 8, .inl gch))] := hDn
    replace hS := hSn
    clear hPn hDn hSn
    clear hPc hDc hFc hP1 hD1 hk1 hz1 ht9 hvm
    refine W.cs (cells' := 0) (slots' := 0) rfl rfl ?_
    refine lv_iload_n hx hb d_Mo_found_26 rfl (lv_at hl 1 rfl) ?_
    have hPc := hP.sub (ws' := [(m0, .inr (9, [.int mth, .int (nI mt), .ref m1, .ref m2, .int mf, .int (nI mcd), .ref m3, .ref m4, .ref m5, .ref m6, .int (nI mev), .ref m7, .ref m8, .ref m9, .ref m10, .ref m11, .ref m12, .ref m13, .int mwh, .int (mps + 1), .ref m14, .ref m15, .long mlr, .int (nI mlt), .int (nI mlm), .ref m16, .int mln, .ref m17])), (m7, .inl (cI, 30, .inl gtr))]) [3, 1] rfl
    have hDc := hD.sub (ws' := [(m0, .inr (9, [.int mth, .int (nI mt), .ref m1, .ref m2, .int mf, .int (nI mcd), .ref m3, .ref m4, .ref m5, .ref m6, .int (nI mev), .ref m7, .ref m8, .ref m9, .ref m10, .ref m11, .ref m12, .ref m13, .int mwh, .int (mps + 1), .ref m14, .ref m15, .long mlr, .int (nI mlt), .int (nI mlm), .ref m16, .int mln, .ref m17])), (m7, .inl (cI, 30, .inl gtr))]) [3, 1] (by decide) rfl
    have hFc := va_free (wc := [(m0, .inr (9, [.int mth, .int (nI mt), .ref m1, .ref m2, .int mf, .int (nI mcd), .ref m3, .ref m4, .ref m5, .ref m6, .int (nI mev), .ref m7, .ref m8, .ref m9, .ref m10, .ref m11, .ref m12, .ref m13, .int mwh, .int (mps + 1), .ref m14, .ref m15, .long mlr, .int (nI mlt), .int (nI mlm), .ref m16, .int mln, .ref m17])), (m7, .inl (cI, 30, .inl gtr))]) hD hS hA [3, 1] rfl
    refine va_calll (va_runV (C := "NetUnfolderModel") (As := [.int r9, .int (nI k)]) (rest := []) ⟨hx, hb, hml, hown, ht⟩ (c_Mo_rankOf l dC dI cI cL cZ _ m0 m1 m2 m3 m4 m5 m6 m7 m8 m9 m10 m11 m12 m13 m14 m15 m16 m17 mth mt mf mcd mev mwh (mps + 1) mlr mlt mlm mln gtr r9 (nI k) (by first | assumption | omega | trivial | exact AllLt.zero | exact AllN.zero | exact AllM.zero | exact Or.inl rfl | exact Or.inr rfl)) (cwV 2 ht (good_V wd_4_159 wd_4_161 ws_Mo_rankOf wd_1_10 wd_4_162) rfl rfl rfl (by decide +kernel) ⟨Nat.le_of_ble_eq_true rfl, Nat.le_of_ble_eq_true rfl⟩) ⟨fun a U g mk q => by obtain ⟨q0, q1, qP, qK, qD, qN⟩ := q; exact ⟨q0, q1, qP, va_K.moved (u := U) (U := U.calling g mk a) (Vm.Alike.refl U.vm) qK, qD, NwA.same (u := U) rfl qN⟩, (va_recv (q0 := 3) (ci := 9) hK hP rfl rfl), fun U hU hW => ⟨rfl, by rw [hU], by rw [hU]; exact hPc, va_K.moved hW.alike hK, hDc.weaken (fun _ _ _ _ => trivial), NwA.warm hW hN⟩⟩ rfl rfl hl.1 rfl (lv_room (Nat.le_of_ble_eq_true rfl)) d_Mo_found_27 ⟨Nat.le_of_ble_eq_true rfl, Nat.le_of_ble_eq_true rfl⟩) hS (fun q _ h => hFc q h) hFc (fun r12 u9 t9 H10 locs ht9 hvm hw11 hB hz1 hk1 hSn => ?_)
    obtain ⟨hP1, hD1⟩ := hB
    rw [ht9] at hP1
    obtain ⟨hPn, hDn⟩ := va_join (wr := [(m16, .inl (cI, 8, .inl gle)), (m9, .inl (cL, 30, .inr (.inl gtn))), (m5, .inl (cI, 60, .inl gbh)), (m14, .inl (cI, 8, .inl gch))]) (w1 := [(m0, .inr (9, [.int mth, .int (nI mt), .ref m1, .ref m2, .int mf, .int (nI mcd), .ref m3, .ref m4, .ref m5, .ref m6, .int (nI mev), .ref m7, .ref m8, .ref m9, .ref m10, .ref m11, .ref m12, .ref m13, .int mwh, .int (mps + 1), .ref m14, .ref m15, .long mlr, .int (nI mlt), .int (nI mlm), .ref m16, .int mln, .ref m17])), (m7, .inl (cI, 30, .inl gtr))]) hP hD [3, 1] [0, 2, 4, 5] rfl rfl (by decide) (by decide) hk1 hFc hP1 hD1
    replace hP : va_P (dC, dI) clA [(m16, .inl (cI, 8, .inl gle)), (m9, .inl (cL, 30, .inr (.inl gtn))), (m5, .inl (cI, 60, .inl gbh)), (m14, .inl (cI, 8, .inl gch)), (m0, .inr (9, [.int mth, .int (nI mt), .ref m1, .ref m2, .int mf, .int (nI mcd), .ref m3, .ref m4, .ref m5, .ref m6, .int (nI mev), .ref m7, .ref m8, .ref m9, .ref m10, .ref m11, .ref m12, .ref m13, .int mwh, .int (mps + 1), .ref m14, .ref m15, .long mlr, .int (nI mlt), .int (nI mlm), .ref m16, .int mln, .ref m17])), (m7, .inl (cI, 30, .inl gtr))] H10 := hPn
    replace hD : va_D A [(m16, .inl (cI, 8, .inl gle)), (m9, .inl (cL, 30, .inr (.inl gtn))), (m5, .inl (cI, 60, .inl gbh)), (m14, .inl (cI, 8, .inl gch)), (m0, .inr (9, [.int mth, .int (nI mt), .ref m1, .ref m2, .int mf, .int (nI mcd), .ref m3, .ref m4, .ref m5, .ref m6, .int (nI mev), .ref m7, .ref m8, .ref m9, .ref m10, .ref m11, .ref m12, .ref m13, .int mwh, .int (mps + 1), .ref m14, .ref m15, .long mlr, .int (nI mlt), .int (nI mlm), .ref m16, .int mln, .ref m17])), (m7, .inl (cI, 30, .inl gtr))] := hDn
    replace hS := hSn
    clear hPn hDn hSn
    clear hPc hDc hFc hP1 hD1 hk1 hz1 ht9 hvm
    refine W.cs (cells' := 0) (slots' := 0) rfl rfl ?_
    refine lv_lstore_n (lv' := [(3, .long r12), (0, .ref m0), (1, .int (nI k)), (2, .int (nI n))]) hx hb d_Mo_found_30 rfl hl (by decide) rfl (fun ls hln => ?_)
    replace hl : lv_has ls 6 [(3, .long r12), (0, .ref m0), (1, .int (nI k)), (2, .int (nI n))] := hln
    clear hln
    refine lv_aload_n hx hb d_Mo_found_31 rfl (lv_at hl 1 rfl) ?_
    refine va_get (D := (dC, dI)) (ci := 9) (v := .int (mps + 1)) (C := "NetUnfolderModel") (T := T_Mo) (N := 28) hx hb ht in_Mo hown hK hP 4 rfl rfl 19 (by decide) (ht _ wd_4_19) (fun _ h9 => h9) rfl d_Mo_found_32 ?_
    refine lv_iconst (v := 1) hx hb d_Mo_found_35 (by decide) ?_
    refine lv_icmp_le (tgt := 49) hx hb d_Mo_found_36 (by decide) (fun hb13 => ?_) (fun hb13 => ?_)
    · skip
      refine lv_aload_n hx hb d_Mo_found_49 rfl (lv_at hl 1 rfl) ?_
      refine lv_lload_n hx hb d_Mo_found_50 rfl (lv_at hl 0 rfl) ?_
      refine va_put (D := (dC, dI)) (ci := 9) (v := .long r12) (ty := .long) (C := "NetUnfolderModel") (T := T_Mo) (N := 28) hx hb ht in_Mo ty_Mo ok_Mo nm_Mo hown hK hP hD hS 4 rfl rfl 22 (by decide) (ht _ wd_4_22) (fun _ h9 => h9) rfl (by decide +kernel) rfl rfl (Nat.le_of_ble_eq_true rfl) d_Mo_found_51 (fun H14 locs hPn hDn hSn => ?_)
      replace hP : va_P (dC, dI) clA [(m16, .inl (cI, 8, .inl gle)), (m9, .inl (cL, 30, .inr (.inl gtn))), (m5, .inl (cI, 60, .inl gbh)), (m14, .inl (cI, 8, .inl gch)), (m0, .inr (9, [.int mth, .int (nI mt), .ref m1, .ref m2, .int mf, .int (nI mcd), .ref m3, .ref m4, .ref m5, .ref m6, .int (nI mev), .ref m7, .ref m8, .ref m9, .ref m10, .ref m11, .ref m12, .ref m13, .int mwh, .int (mps + 1), .ref m14, .ref m15, .long r12, .int (nI mlt), .int (nI mlm), .ref m16, .int mln, .ref m17])), (m7, .inl (cI, 30, .inl gtr))] H14 := hPn
      replace hD : va_D A [(m16, .inl (cI, 8, .inl gle)), (m9, .inl (cL, 30, .inr (.inl gtn))), (m5, .inl (cI, 60, .inl gbh)), (m14, .inl (cI, 8, .inl gch)), (m0, .inr (9, [.int mth, .int (nI mt), .ref m1, .ref m2, .int mf, .int (nI mcd), .ref m3, .ref m4, .ref m5, .ref m6, .int (nI mev), .ref m7, .ref m8, .ref m9, .ref m10, .ref m11, .ref m12, .ref m13, .int mwh, .int (mps + 1), .ref m14, .ref m15, .long r12, .int (nI mlt), .int (nI mlm), .ref m16, .int mln, .ref m17])), (m7, .inl (cI, 30, .inl gtr))] := hDn
      replace hS := hSn
      clear hPn hDn hSn
      refine lv_aload_n hx hb d_Mo_found_54 rfl (lv_at hl 1 rfl) ?_
      refine lv_iload_n hx hb d_Mo_found_55 rfl (lv_at hl 2 rfl) ?_
      refine va_put (D := (dC, dI)) (ci := 9) (v := .int (nI k)) (ty := .int) (C := "NetUnfolderModel") (T := T_Mo) (N := 28) hx hb ht in_Mo ty_Mo ok_Mo nm_Mo hown hK hP hD hS 4 rfl rfl 23 (by decide) (ht _ wd_4_23) (fun _ h9 => h9) rfl (by decide +kernel) rfl rfl (Nat.le_of_ble_eq_true rfl) d_Mo_found_56 (fun H15 locs hPn hDn hSn => ?_)
      replace hP : va_P (dC, dI) clA [(m16, .inl (cI, 8, .inl gle)), (m9, .inl (cL, 30, .inr (.inl gtn))), (m5, .inl (cI, 60, .inl gbh)), (m14, .inl (cI, 8, .inl gch)), (m0, .inr (9, [.int mth, .int (nI mt), .ref m1, .ref m2, .int mf, .int (nI mcd), .ref m3, .ref m4, .ref m5, .ref m6, .int (nI mev), .ref m7, .ref m8, .ref m9, .ref m10, .ref m11, .ref m12, .ref m13, .int mwh, .int (mps + 1), .ref m14, .ref m15, .long r12, .int (nI k), .int (nI mlm), .ref m16, .int mln, .ref m17])), (m7, .inl (cI, 30, .inl gtr))] H15 := hPn
      replace hD : va_D A [(m16, .inl (cI, 8, .inl gle)), (m9, .inl (cL, 30, .inr (.inl gtn))), (m5, .inl (cI, 60, .inl gbh)), (m14, .inl (cI, 8, .inl gch)), (m0, .inr (9, [.int mth, .int (nI mt), .ref m1, .ref m2, .int mf, .int (nI mcd), .ref m3, .ref m4, .ref m5, .ref m6, .int (nI mev), .ref m7, .ref m8, .ref m9, .ref m10, .ref m11, .ref m12, .ref m13, .int mwh, .int (mps + 1), .ref m14, .ref m15, .long r12, .int (nI k), .int (nI mlm), .ref m16, .int mln, .ref m17])), (m7, .inl (cI, 30, .inl gtr))] := hDn
      replace hS := hSn
      clear hPn hDn hSn
      refine lv_aload_n hx hb d_Mo_found_59 rfl (lv_at hl 1 rfl) ?_
      refine lv_iload_n hx hb d_Mo_found_60 rfl (lv_at hl 3 rfl) ?_
      refine va_put (D := (dC, dI)) (ci := 9) (v := .int (nI n)) (ty := .int) (C := "NetUnfolderModel") (T := T_Mo) (N := 28) hx hb ht in_Mo ty_Mo ok_Mo nm_Mo hown hK hP hD hS 4 rfl rfl 24 (by decide) (ht _ wd_4_24) (fun _ h9 => h9) rfl (by decide +kernel) rfl rfl (Nat.le_of_ble_eq_true rfl) d_Mo_found_61 (fun H16 locs hPn hDn hSn => ?_)
      replace hP : va_P (dC, dI) clA [(m16, .inl (cI, 8, .inl gle)), (m9, .inl (cL, 30, .inr (.inl gtn))), (m5, .inl (cI, 60, .inl gbh)), (m14, .inl (cI, 8, .inl gch)), (m0, .inr (9, [.int mth, .int (nI mt), .ref m1, .ref m2, .int mf, .int (nI mcd), .ref m3, .ref m4, .ref m5, .ref m6, .int (nI mev), .ref m7, .ref m8, .ref m9, .ref m10, .ref m11, .ref m12, .ref m13, .int mwh, .int (mps + 1), .ref m14, .ref m15, .long r12, .int (nI k), .int (nI n), .ref m16, .int mln, .ref m17])), (m7, .inl (cI, 30, .inl gtr))] H16 := hPn
      replace hD : va_D A [(m16, .inl (cI, 8, .inl gle)), (m9, .inl (cL, 30, .inr (.inl gtn))), (m5, .inl (cI, 60, .inl gbh)), (m14, .inl (cI, 8, .inl gch)), (m0, .inr (9, [.int mth, .int (nI mt), .ref m1, .ref m2, .int mf, .int (nI mcd), .ref m3, .ref m4, .ref m5, .ref m6, .int (nI mev), .ref m7, .ref m8, .ref m9, .ref m10, .ref m11, .ref m12, .ref m13, .int mwh, .int (mps + 1), .ref m14, .ref m15, .long r12, .int (nI k), .int (nI n), .ref m16, .int mln, .ref m17])), (m7, .inl (cI, 30, .inl gtr))] := hDn
      replace hS := hSn
      clear hPn hDn hSn
      refine lv_iconst (v := 0) hx hb d_Mo_found_64 (by decide) ?_
      refine lv_istore (lv' := [(5, .int 0), (3, .long r12), (0, .ref m0), (1, .int (nI k)), (2, .int (nI n))]) hx hb d_Mo_found_65 hl (by decide) rfl (fun ls hln => ?_)
      replace hl : lv_has ls 6 [(5, .int 0), (3, .long r12), (0, .ref m0), (1, .int (nI k)), (2, .int (nI n))] := hln
      clear hln
      have hloop17 : ∀ (n67 : Nat) (i : Nat) (gle2 : Nat → Int32) (v3 : Int64) (hi : i ≤ n) (hgle2 : AllLt gle2 8 60) (H : Heap) (locs : List Loc) (ls : Array Slot) (hl : lv_has ls 6 [(0, .ref m0), (1, .int (nI k)), (2, .int (nI n)), (3, .long v3), (5, .int (nI i))]) (hP : va_P (dC, dI) clA [(m16, .inl (cI, 8, .inl gle2)), (m9, .inl (cL, 30, .inr (.inl gtn))), (m5, .inl (cI, 60, .inl gbh)), (m14, .inl (cI, 8, .inl gch)), (m0, .inr (9, [.int mth, .int (nI mt), .ref m1, .ref m2, .int mf, .int (nI mcd), .ref m3, .ref m4, .ref m5, .ref m6, .int (nI mev), .ref m7, .ref m8, .ref m9, .ref m10, .ref m11, .ref m12, .ref m13, .int mwh, .int (mps + 1), .ref m14, .ref m15, .long r12, .int (nI k), .int (nI n), .ref m16, .int mln, .ref m17])), (m7, .inl (cI, 30, .inl gtr))] H) (hD : va_D A [(m16, .inl (cI, 8, .inl gle2)), (m9, .inl (cL, 30, .inr (.inl gtn))), (m5, .inl (cI, 60, .inl gbh)), (m14, .inl (cI, 8, .inl gch)), (m0, .inr (9, [.int mth, .int (nI mt), .ref m1, .ref m2, .int mf, .int (nI mcd), .ref m3, .ref m4, .ref m5, .ref m6, .int (nI mev), .ref m7, .ref m8, .ref m9, .ref m10, .ref m11, .ref m12, .ref m13, .int mwh, .int (mps + 1), .ref m14, .ref m15, .long r12, .int (nI k), .int (nI n), .ref m16, .int mln, .ref m17])), (m7, .inl (cI, 30, .inl gtr))]) (hS : va_S A s.heap H locs) (hm67 : n - i < n67), W p l e (headSpec (Cond.code y_Mo_found prog_11_method_19_code 6 none :: wsA) { frames := 2, cells := 0, slots := 0, locals := 52 }).room s m ([.ref m0, .int (nI k), .int (nI n)] : List Value).toArray below meth c H locs 0 0 Q (F0 m 67 ls []) := by
        clear hl hP hD hS
        intro n67
        induction n67 with
        | zero => intro i gle2 v3 hi hgle2 H locs ls hl hP hD hS hm; exact absurd hm (Nat.not_lt_zero _)
        | succ n67 hloop17_ih =>
          intro i gle2 v3 hi hgle2 H locs ls hl hP hD hS hm67
          refine lv_iload hx hb d_Mo_found_67 (lv_at hl 4 rfl) ?_
          refine lv_iload_n hx hb d_Mo_found_69 rfl (lv_at hl 2 rfl) ?_
          refine lv_icmp_ge (tgt := 93) hx hb d_Mo_found_70 (by decide) (fun hb18 => ?_) (fun hb18 => ?_)
          · skip
            replace hb18 := cv_le (a := n) (b := i) (by omega) (by omega) hb18
            have hP9 := hP.sub (ws' := [(m0, .inr (9, [.int mth, .int (nI mt), .ref m1, .ref m2, .int mf, .int (nI mcd), .ref m3, .ref m4, .ref m5, .ref m6, .int (nI mev), .ref m7, .ref m8, .ref m9, .ref m10, .ref m11, .ref m12, .ref m13, .int mwh, .int (mps + 1), .ref m14, .ref m15, .long r12, .int (nI k), .int (nI n), .ref m16, .int mln, .ref m17])), (m5, .inl (cI, 60, .inl gbh)), (m7, .inl (cI, 30, .inl gtr)), (m9, .inl (cL, 30, .inr (.inl gtn))), (m14, .inl (cI, 8, .inl gch)), (m16, .inl (cI, 8, .inl gle2))]) [4, 2, 5, 1, 3, 0] rfl
            have hD9 := hD.sub (ws' := [(m0, .inr (9, [.int mth, .int (nI mt), .ref m1, .ref m2, .int mf, .int (nI mcd), .ref m3, .ref m4, .ref m5, .ref m6, .int (nI mev), .ref m7, .ref m8, .ref m9, .ref m10, .ref m11, .ref m12, .ref m13, .int mwh, .int (mps + 1), .ref m14, .ref m15, .long r12, .int (nI k), .int (nI n), .ref m16, .int mln, .ref m17])), (m5, .inl (cI, 60, .inl gbh)), (m7, .inl (cI, 30, .inl gtr)), (m9, .inl (cL, 30, .inr (.inl gtn))), (m14, .inl (cI, 8, .inl gch)), (m16, .inl (cI, 8, .inl gle2))]) [4, 2, 5, 1, 3, 0] (by decide) rfl
            subst hQ
            exact W.vret hx hb hr (fun t9 ht9 hW => ⟨⟨(), rfl, trivial, (mps + 1), r12, k, n, gle2, (by first | assumption | omega | trivial | exact AllLt.zero | exact AllN.zero | exact AllM.zero | exact Or.inl rfl | exact Or.inr rfl), (by first | assumption | omega | trivial | exact AllLt.zero | exact AllN.zero | exact AllM.zero | exact Or.inl rfl | exact Or.inr rfl), (by first | assumption | omega | trivial | exact AllLt.zero | exact AllN.zero | exact AllM.zero | exact Or.inl rfl | exact Or.inr rfl), by rw [ht9]; exact hP9, hD9⟩, hS.F ht9⟩) hS.2.2 d_Mo_found_93
          · skip
            replace hb18 := cv_nle (a := n) (b := i) (by omega) (by omega) hb18
            refine lv_aload_n hx hb d_Mo_found_73 rfl (lv_at hl 0 rfl) ?_
            refine va_get (D := (dC, dI)) (ci := 9) (v := .ref m16) (C := "NetUnfolderModel") (T := T_Mo) (N := 28) hx hb ht in_Mo hown hK hP 4 rfl rfl 25 (by decide) (ht _ wd_4_25) (fun _ h9 => h9) rfl d_Mo_found_74 ?_
            refine lv_iload hx hb d_Mo_found_77 (lv_at hl 4 rfl) ?_
            refine lv_aload_n hx hb d_Mo_found_79 rfl (lv_at hl 0 rfl) ?_
            refine va_get (D := (dC, dI)) (ci := 9) (v := .ref m14) (C := "NetUnfolderModel") (T := T_Mo) (N := 28) hx hb ht in_Mo hown hK hP 4 rfl rfl 20 (by decide) (ht _ wd_4_20) (fun _ h9 => h9) rfl d_Mo_found_80 ?_
            refine lv_iload hx hb d_Mo_found_83 (lv_at hl 4 rfl) ?_
            refine na_iald (k := i) hx hb hK hP 3 0 rfl rfl (by omega) (by decide) d_Mo_found_85 ?_
            obtain ⟨q19, hq20, eq21⟩ := hgch (i) (by omega)
            refine ci_i (y := nI q19) eq21 ?_
            refine na_iast (k := i) hx hb hK hP hD hS 0 0 rfl rfl (by omega) (by decide) d_Mo_found_86 (fun H22 locs hPn hDn hSn => ?_)
            replace hP : va_P (dC, dI) clA [(m16, .inl (cI, 8, .inl (upd gle2 i (nI q19)))), (m9, .inl (cL, 30, .inr (.inl gtn))), (m5, .inl (cI, 60, .inl gbh)), (m14, .inl (cI, 8, .inl gch)), (m0, .inr (9, [.int mth, .int (nI mt), .ref m1, .ref m2, .int mf, .int (nI mcd), .ref m3, .ref m4, .ref m5, .ref m6, .int (nI mev), .ref m7, .ref m8, .ref m9, .ref m10, .ref m11, .ref m12, .ref m13, .int mwh, .int (mps + 1), .ref m14, .ref m15, .long r12, .int (nI k), .int (nI n), .ref m16, .int mln, .ref m17])), (m7, .inl (cI, 30, .inl gtr))] H22 := hPn
            replace hD : va_D A [(m16, .inl (cI, 8, .inl (upd gle2 i (nI q19)))), (m9, .inl (cL, 30, .inr (.inl gtn))), (m5, .inl (cI, 60, .inl gbh)), (m14, .inl (cI, 8, .inl gch)), (m0, .inr (9, [.int mth, .int (nI mt), .ref m1, .ref m2, .int mf, .int (nI mcd), .ref m3, .ref m4, .ref m5, .ref m6, .int (nI mev), .ref m7, .ref m8, .ref m9, .ref m10, .ref m11, .ref m12, .ref m13, .int mwh, .int (mps + 1), .ref m14, .ref m15, .long r12, .int (nI k), .int (nI n), .ref m16, .int mln, .ref m17])), (m7, .inl (cI, 30, .inl gtr))] := hDn
            replace hS := hSn
            clear hPn hDn hSn
            refine lv_iinc (k := 4) (v := nI (i + 1)) (lv' := [(5, .int (nI (i + 1))), (0, .ref m0), (1, .int (nI k)), (2, .int (nI n)), (3, .long v3)]) hx hb d_Mo_found_87 hl rfl (nI_1 _) (by decide) rfl (fun ls hln => ?_)
            replace hl : lv_has ls 6 [(5, .int (nI (i + 1))), (0, .ref m0), (1, .int (nI k)), (2, .int (nI n)), (3, .long v3)] := hln
            clear hln
            refine lv_goto (tgt := 67) hx hb d_Mo_found_90 (by decide) ?_
            exact hloop17_ih (i + 1) (upd gle2 i (nI q19)) v3 (by first | assumption | omega | trivial | exact AllLt.zero | exact AllN.zero | exact AllM.zero | exact Or.inl rfl | exact Or.inr rfl) (AllLt.put hgle2 (by assumption)) _ _ ls (lv_sub hl [1, 2, 3, 4, 0] rfl) (hP.sub [0, 1, 2, 3, 4, 5] rfl) (hD.sub [0, 1, 2, 3, 4, 5] (by decide) rfl) hS (by omega)
      exact hloop17 ((n - 0) + 1) 0 gle r12 (by first | assumption | omega | trivial | exact AllLt.zero | exact AllN.zero | exact AllM.zero | exact Or.inl rfl | exact Or.inr rfl) hgle _ _ ls (lv_sub hl [2, 3, 4, 1, 0] rfl) hP hD hS (Nat.lt_succ_self _)
    · skip
      refine lv_lload_n hx hb d_Mo_found_39 rfl (lv_at hl 0 rfl) ?_
      refine lv_aload_n hx hb d_Mo_found_40 rfl (lv_at hl 1 rfl) ?_
      refine va_get (D := (dC, dI)) (ci := 9) (v := .long mlr) (C := "NetUnfolderModel") (T := T_Mo) (N := 28) hx hb ht in_Mo hown hK hP 4 rfl rfl 22 (by decide) (ht _ wd_4_22) (fun _ h9 => h9) rfl d_Mo_found_41 ?_
      refine W.lcmp hx hb d_Mo_found_44 ?_
      refine lv_if_lt (tgt := 49) hx hb d_Mo_found_45 (by decide) (fun hb23 => ?_) (fun hb23 => ?_)
      · skip
        refine lv_aload_n hx hb d_Mo_found_49 rfl (lv_at hl 1 rfl) ?_
        refine lv_lload_n hx hb d_Mo_found_50 rfl (lv_at hl 0 rfl) ?_
        refine va_put (D := (dC, dI)) (ci := 9) (v := .long r12) (ty := .long) (C := "NetUnfolderModel") (T := T_Mo) (N := 28) hx hb ht in_Mo ty_Mo ok_Mo nm_Mo hown hK hP hD hS 4 rfl rfl 22 (by decide) (ht _ wd_4_22) (fun _ h9 => h9) rfl (by decide +kernel) rfl rfl (Nat.le_of_ble_eq_true rfl) d_Mo_found_51 (fun H24 locs hPn hDn hSn => ?_)
        replace hP : va_P (dC, dI) clA [(m16, .inl (cI, 8, .inl gle)), (m9, .inl (cL, 30, .inr (.inl gtn))), (m5, .inl (cI, 60, .inl gbh)), (m14, .inl (cI, 8, .inl gch)), (m0, .inr (9, [.int mth, .int (nI mt), .ref m1, .ref m2, .int mf, .int (nI mcd), .ref m3, .ref m4, .ref m5, .ref m6, .int (nI mev), .ref m7, .ref m8, .ref m9, .ref m10, .ref m11, .ref m12, .ref m13, .int mwh, .int (mps + 1), .ref m14, .ref m15, .long r12, .int (nI mlt), .int (nI mlm), .ref m16, .int mln, .ref m17])), (m7, .inl (cI, 30, .inl gtr))] H24 := hPn
        replace hD : va_D A [(m16, .inl (cI, 8, .inl gle)), (m9, .inl (cL, 30, .inr (.inl gtn))), (m5, .inl (cI, 60, .inl gbh)), (m14, .inl (cI, 8, .inl gch)), (m0, .inr (9, [.int mth, .int (nI mt), .ref m1, .ref m2, .int mf, .int (nI mcd), .ref m3, .ref m4, .ref m5, .ref m6, .int (nI mev), .ref m7, .ref m8, .ref m9, .ref m10, .ref m11, .ref m12, .ref m13, .int mwh, .int (mps + 1), .ref m14, .ref m15, .long r12, .int (nI mlt), .int (nI mlm), .ref m16, .int mln, .ref m17])), (m7, .inl (cI, 30, .inl gtr))] := hDn
        replace hS := hSn
        clear hPn hDn hSn
        refine lv_aload_n hx hb d_Mo_found_54 rfl (lv_at hl 1 rfl) ?_
        refine lv_iload_n hx hb d_Mo_found_55 rfl (lv_at hl 2 rfl) ?_
        refine va_put (D := (dC, dI)) (ci := 9) (v := .int (nI k)) (ty := .int) (C := "NetUnfolderModel") (T := T_Mo) (N := 28) hx hb ht in_Mo ty_Mo ok_Mo nm_Mo hown hK hP hD hS 4 rfl rfl 23 (by decide) (ht _ wd_4_23) (fun _ h9 => h9) rfl (by decide +kernel) rfl rfl (Nat.le_of_ble_eq_true rfl) d_Mo_found_56 (fun H25 locs hPn hDn hSn => ?_)
        replace hP : va_P (dC, dI) clA [(m16, .inl (cI, 8, .inl gle)), (m9, .inl (cL, 30, .inr (.inl gtn))), (m5, .inl (cI, 60, .inl gbh)), (m14, .inl (cI, 8, .inl gch)), (m0, .inr (9, [.int mth, .int (nI mt), .ref m1, .ref m2, .int mf, .int (nI mcd), .ref m3, .ref m4, .ref m5, .ref m6, .int (nI mev), .ref m7, .ref m8, .ref m9, .ref m10, .ref m11, .ref m12, .ref m13, .int mwh, .int (mps + 1), .ref m14, .ref m15, .long r12, .int (nI k), .int (nI mlm), .ref m16, .int mln, .ref m17])), (m7, .inl (cI, 30, .inl gtr))] H25 := hPn
        replace hD : va_D A [(m16, .inl (cI, 8, .inl gle)), (m9, .inl (cL, 30, .inr (.inl gtn))), (m5, .inl (cI, 60, .inl gbh)), (m14, .inl (cI, 8, .inl gch)), (m0, .inr (9, [.int mth, .int (nI mt), .ref m1, .ref m2, .int mf, .int (nI mcd), .ref m3, .ref m4, .ref m5, .ref m6, .int (nI mev), .ref m7, .ref m8, .ref m9, .ref m10, .ref m11, .ref m12, .ref m13, .int mwh, .int (mps + 1), .ref m14, .ref m15, .long r12, .int (nI k), .int (nI mlm), .ref m16, .int mln, .ref m17])), (m7, .inl (cI, 30, .inl gtr))] := hDn
        replace hS := hSn
        clear hPn hDn hSn
        refine lv_aload_n hx hb d_Mo_found_59 rfl (lv_at hl 1 rfl) ?_
        refine lv_iload_n hx hb d_Mo_found_60 rfl (lv_at hl 3 rfl) ?_
        refine va_put (D := (dC, dI)) (ci := 9) (v := .int (nI n)) (ty := .int) (C := "NetUnfolderModel") (T := T_Mo) (N := 28) hx hb ht in_Mo ty_Mo ok_Mo nm_Mo hown hK hP hD hS 4 rfl rfl 24 (by decide) (ht _ wd_4_24) (fun _ h9 => h9) rfl (by decide +kernel) rfl rfl (Nat.le_of_ble_eq_true rfl) d_Mo_found_61 (fun H26 locs hPn hDn hSn => ?_)
        replace hP : va_P (dC, dI) clA [(m16, .inl (cI, 8, .inl gle)), (m9, .inl (cL, 30, .inr (.inl gtn))), (m5, .inl (cI, 60, .inl gbh)), (m14, .inl (cI, 8, .inl gch)), (m0, .inr (9, [.int mth, .int (nI mt), .ref m1, .ref m2, .int mf, .int (nI mcd), .ref m3, .ref m4, .ref m5, .ref m6, .int (nI mev), .ref m7, .ref m8, .ref m9, .ref m10, .ref m11, .ref m12, .ref m13, .int mwh, .int (mps + 1), .ref m14, .ref m15, .long r12, .int (nI k), .int (nI n), .ref m16, .int mln, .ref m17])), (m7, .inl (cI, 30, .inl gtr))] H26 := hPn
        replace hD : va_D A [(m16, .inl (cI, 8, .inl gle)), (m9, .inl (cL, 30, .inr (.inl gtn))), (m5, .inl (cI, 60, .inl gbh)), (m14, .inl (cI, 8, .inl gch)), (m0, .inr (9, [.int mth, .int (nI mt), .ref m1, .ref m2, .int mf, .int (nI mcd), .ref m3, .ref m4, .ref m5, .ref m6, .int (nI mev), .ref m7, .ref m8, .ref m9, .ref m10, .ref m11, .ref m12, .ref m13, .int mwh, .int (mps + 1), .ref m14, .ref m15, .long r12, .int (nI k), .int (nI n), .ref m16, .int mln, .ref m17])), (m7, .inl (cI, 30, .inl gtr))] := hDn
        replace hS := hSn
        clear hPn hDn hSn
        refine lv_iconst (v := 0) hx hb d_Mo_found_64 (by decide) ?_
        refine lv_istore (lv' := [(5, .int 0), (3, .long r12), (0, .ref m0), (1, .int (nI k)), (2, .int (nI n))]) hx hb d_Mo_found_65 hl (by decide) rfl (fun ls hln => ?_)
        replace hl : lv_has ls 6 [(5, .int 0), (3, .long r12), (0, .ref m0), (1, .int (nI k)), (2, .int (nI n))] := hln
        clear hln
        have hloop27 : ∀ (n67 : Nat) (i : Nat) (gle2 : Nat → Int32) (v3 : Int64) (hi : i ≤ n) (hgle2 : AllLt gle2 8 60) (H : Heap) (locs : List Loc) (ls : Array Slot) (hl : lv_has ls 6 [(0, .ref m0), (1, .int (nI k)), (2, .int (nI n)), (3, .long v3), (5, .int (nI i))]) (hP : va_P (dC, dI) clA [(m16, .inl (cI, 8, .inl gle2)), (m9, .inl (cL, 30, .inr (.inl gtn))), (m5, .inl (cI, 60, .inl gbh)), (m14, .inl (cI, 8, .inl gch)), (m0, .inr (9, [.int mth, .int (nI mt), .ref m1, .ref m2, .int mf, .int (nI mcd), .ref m3, .ref m4, .ref m5, .ref m6, .int (nI mev), .ref m7, .ref m8, .ref m9, .ref m10, .ref m11, .ref m12, .ref m13, .int mwh, .int (mps + 1), .ref m14, .ref m15, .long r12, .int (nI k), .int (nI n), .ref m16, .int mln, .ref m17])), (m7, .inl (cI, 30, .inl gtr))] H) (hD : va_D A [(m16, .inl (cI, 8, .inl gle2)), (m9, .inl (cL, 30, .inr (.inl gtn))), (m5, .inl (cI, 60, .inl gbh)), (m14, .inl (cI, 8, .inl gch)), (m0, .inr (9, [.int mth, .int (nI mt), .ref m1, .ref m2, .int mf, .int (nI mcd), .ref m3, .ref m4, .ref m5, .ref m6, .int (nI mev), .ref m7, .ref m8, .ref m9, .ref m10, .ref m11, .ref m12, .ref m13, .int mwh, .int (mps + 1), .ref m14, .ref m15, .long r12, .int (nI k), .int (nI n), .ref m16, .int mln, .ref m17])), (m7, .inl (cI, 30, .inl gtr))]) (hS : va_S A s.heap H locs) (hm67 : n - i < n67), W p l e (headSpec (Cond.code y_Mo_found prog_11_method_19_code 6 none :: wsA) { frames := 2, cells := 0, slots := 0, locals := 52 }).room s m ([.ref m0, .int (nI k), .int (nI n)] : List Value).toArray below meth c H locs 0 0 Q (F0 m 67 ls []) := by
          clear hl hP hD hS
          intro n67
          induction n67 with
          | zero => intro i gle2 v3 hi hgle2 H locs ls hl hP hD hS hm; exact absurd hm (Nat.not_lt_zero _)
          | succ n67 hloop27_ih =>
            intro i gle2 v3 hi hgle2 H locs ls hl hP hD hS hm67
            refine lv_iload hx hb d_Mo_found_67 (lv_at hl 4 rfl) ?_
            refine lv_iload_n hx hb d_Mo_found_69 rfl (lv_at hl 2 rfl) ?_
            refine lv_icmp_ge (tgt := 93) hx hb d_Mo_found_70 (by decide) (fun hb28 => ?_) (fun hb28 => ?_)
            · skip
              replace hb28 := cv_le (a := n) (b := i) (by omega) (by omega) hb28
              have hP9 := hP.sub (ws' := [(m0, .inr (9, [.int mth, .int (nI mt), .ref m1, .ref m2, .int mf, .int (nI mcd), .ref m3, .ref m4, .ref m5, .ref m6, .int (nI mev), .ref m7, .ref m8, .ref m9, .ref m10, .ref m11, .ref m12, .ref m13, .int mwh, .int (mps + 1), .ref m14, .ref m15, .long r12, .int (nI k), .int (nI n), .ref m16, .int mln, .ref m17])), (m5, .inl (cI, 60, .inl gbh)), (m7, .inl (cI, 30, .inl gtr)), (m9, .inl (cL, 30, .inr (.inl gtn))), (m14, .inl (cI, 8, .inl gch)), (m16, .inl (cI, 8, .inl gle2))]) [4, 2, 5, 1, 3, 0] rfl
              have hD9 := hD.sub (ws' := [(m0, .inr (9, [.int mth, .int (nI mt), .ref m1, .ref m2, .int mf, .int (nI mcd), .ref m3, .ref m4, .ref m5, .ref m6, .int (nI mev), .ref m7, .ref m8, .ref m9, .ref m10, .ref m11, .ref m12, .ref m13, .int mwh, .int (mps + 1), .ref m14, .ref m15, .long r12, .int (nI k), .int (nI n), .ref m16, .int mln, .ref m17])), (m5, .inl (cI, 60, .inl gbh)), (m7, .inl (cI, 30, .inl gtr)), (m9, .inl (cL, 30, .inr (.inl gtn))), (m14, .inl (cI, 8, .inl gch)), (m16, .inl (cI, 8, .inl gle2))]) [4, 2, 5, 1, 3, 0] (by decide) rfl
              subst hQ
              exact W.vret hx hb hr (fun t9 ht9 hW => ⟨⟨(), rfl, trivial, (mps + 1), r12, k, n, gle2, (by first | assumption | omega | trivial | exact AllLt.zero | exact AllN.zero | exact AllM.zero | exact Or.inl rfl | exact Or.inr rfl), (by first | assumption | omega | trivial | exact AllLt.zero | exact AllN.zero | exact AllM.zero | exact Or.inl rfl | exact Or.inr rfl), (by first | assumption | omega | trivial | exact AllLt.zero | exact AllN.zero | exact AllM.zero | exact Or.inl rfl | exact Or.inr rfl), by rw [ht9]; exact hP9, hD9⟩, hS.F ht9⟩) hS.2.2 d_Mo_found_93
            · skip
              replace hb28 := cv_nle (a := n) (b := i) (by omega) (by omega) hb28
              refine lv_aload_n hx hb d_Mo_found_73 rfl (lv_at hl 0 rfl) ?_
              refine va_get (D := (dC, dI)) (ci := 9) (v := .ref m16) (C := "NetUnfolderModel") (T := T_Mo) (N := 28) hx hb ht in_Mo hown hK hP 4 rfl rfl 25 (by decide) (ht _ wd_4_25) (fun _ h9 => h9) rfl d_Mo_found_74 ?_
              refine lv_iload hx hb d_Mo_found_77 (lv_at hl 4 rfl) ?_
              refine lv_aload_n hx hb d_Mo_found_79 rfl (lv_at hl 0 rfl) ?_
              refine va_get (D := (dC, dI)) (ci := 9) (v := .ref m14) (C := "NetUnfolderModel") (T := T_Mo) (N := 28) hx hb ht in_Mo hown hK hP 4 rfl rfl 20 (by decide) (ht _ wd_4_20) (fun _ h9 => h9) rfl d_Mo_found_80 ?_
              refine lv_iload hx hb d_Mo_found_83 (lv_at hl 4 rfl) ?_
              refine na_iald (k := i) hx hb hK hP 3 0 rfl rfl (by omega) (by decide) d_Mo_found_85 ?_
              obtain ⟨q29, hq30, eq31⟩ := hgch (i) (by omega)
              refine ci_i (y := nI q29) eq31 ?_
              refine na_iast (k := i) hx hb hK hP hD hS 0 0 rfl rfl (by omega) (by decide) d_Mo_found_86 (fun H32 locs hPn hDn hSn => ?_)
              replace hP : va_P (dC, dI) clA [(m16, .inl (cI, 8, .inl (upd gle2 i (nI q29)))), (m9, .inl (cL, 30, .inr (.inl gtn))), (m5, .inl (cI, 60, .inl gbh)), (m14, .inl (cI, 8, .inl gch)), (m0, .inr (9, [.int mth, .int (nI mt), .ref m1, .ref m2, .int mf, .int (nI mcd), .ref m3, .ref m4, .ref m5, .ref m6, .int (nI mev), .ref m7, .ref m8, .ref m9, .ref m10, .ref m11, .ref m12, .ref m13, .int mwh, .int (mps + 1), .ref m14, .ref m15, .long r12, .int (nI k), .int (nI n), .ref m16, .int mln, .ref m17])), (m7, .inl (cI, 30, .inl gtr))] H32 := hPn
              replace hD : va_D A [(m16, .inl (cI, 8, .inl (upd gle2 i (nI q29)))), (m9, .inl (cL, 30, .inr (.inl gtn))), (m5, .inl (cI, 60, .inl gbh)), (m14, .inl (cI, 8, .inl gch)), (m0, .inr (9, [.int mth, .int (nI mt), .ref m1, .ref m2, .int mf, .int (nI mcd), .ref m3, .ref m4, .ref m5, .ref m6, .int (nI mev), .ref m7, .ref m8, .ref m9, .ref m10, .ref m11, .ref m12, .ref m13, .int mwh, .int (mps + 1), .ref m14, .ref m15, .long r12, .int (nI k), .int (nI n), .ref m16, .int mln, .ref m17])), (m7, .inl (cI, 30, .inl gtr))] := hDn
              replace hS := hSn
              clear hPn hDn hSn
              refine lv_iinc (k := 4) (v := nI (i + 1)) (lv' := [(5, .int (nI (i + 1))), (0, .ref m0), (1, .int (nI k)), (2, .int (nI n)), (3, .long v3)]) hx hb d_Mo_found_87 hl rfl (nI_1 _) (by decide) rfl (fun ls hln => ?_)
              replace hl : lv_has ls 6 [(5, .int (nI (i + 1))), (0, .ref m0), (1, .int (nI k)), (2, .int (nI n)), (3, .long v3)] := hln
              clear hln
              refine lv_goto (tgt := 67) hx hb d_Mo_found_90 (by decide) ?_
              exact hloop27_ih (i + 1) (upd gle2 i (nI q29)) v3 (by first | assumption | omega | trivial | exact AllLt.zero | exact AllN.zero | exact AllM.zero | exact Or.inl rfl | exact Or.inr rfl) (AllLt.put hgle2 (by assumption)) _ _ ls (lv_sub hl [1, 2, 3, 4, 0] rfl) (hP.sub [0, 1, 2, 3, 4, 5] rfl) (hD.sub [0, 1, 2, 3, 4, 5] (by decide) rfl) hS (by omega)
        exact hloop27 ((n - 0) + 1) 0 gle r12 (by first | assumption | omega | trivial | exact AllLt.zero | exact AllN.zero | exact AllM.zero | exact Or.inl rfl | exact Or.inr rfl) hgle _ _ ls (lv_sub hl [2, 3, 4, 1, 0] rfl) hP hD hS (Nat.lt_succ_self _)
      · skip
        have hP9 := hP.sub (ws' := [(m0, .inr (9, [.int mth, .int (nI mt), .ref m1, .ref m2, .int mf, .int (nI mcd), .ref m3, .ref m4, .ref m5, .ref m6, .int (nI mev), .ref m7, .ref m8, .ref m9, .ref m10, .ref m11, .ref m12, .ref m13, .int mwh, .int (mps + 1), .ref m14, .ref m15, .long mlr, .int (nI mlt), .int (nI mlm), .ref m16, .int mln, .ref m17])), (m5, .inl (cI, 60, .inl gbh)), (m7, .inl (cI, 30, .inl gtr)), (m9, .inl (cL, 30, .inr (.inl gtn))), (m14, .inl (cI, 8, .inl gch)), (m16, .inl (cI, 8, .inl gle))]) [4, 2, 5, 1, 3, 0] rfl
        have hD9 := hD.sub (ws' := [(m0, .inr (9, [.int mth, .int (nI mt), .ref m1, .ref m2, .int mf, .int (nI mcd), .ref m3, .ref m4, .ref m5, .ref m6, .int (nI mev), .ref m7, .ref m8, .ref m9, .ref m10, .ref m11, .ref m12, .ref m13, .int mwh, .int (mps + 1), .ref m14, .ref m15, .long mlr, .int (nI mlt), .int (nI mlm), .ref m16, .int mln, .ref m17])), (m5, .inl (cI, 60, .inl gbh)), (m7, .inl (cI, 30, .inl gtr)), (m9, .inl (cL, 30, .inr (.inl gtn))), (m14, .inl (cI, 8, .inl gch)), (m16, .inl (cI, 8, .inl gle))]) [4, 2, 5, 1, 3, 0] (by decide) rfl
        subst hQ
        exact W.vret hx hb hr (fun t9 ht9 hW => ⟨⟨(), rfl, trivial, (mps + 1), mlr, mlt, mlm, gle, (by first | assumption | omega | trivial | exact AllLt.zero | exact AllN.zero | exact AllM.zero | exact Or.inl rfl | exact Or.inr rfl), (by first | assumption | omega | trivial | exact AllLt.zero | exact AllN.zero | exact AllM.zero | exact Or.inl rfl | exact Or.inr rfl), (by first | assumption | omega | trivial | exact AllLt.zero | exact AllN.zero | exact AllM.zero | exact Or.inl rfl | exact Or.inr rfl), by rw [ht9]; exact hP9, hD9⟩, hS.F ht9⟩) hS.2.2 d_Mo_found_48
  · skip
    have hP9 := hP.sub (ws' := [(m0, .inr (9, [.int mth, .int (nI mt), .ref m1, .ref m2, .int mf, .int (nI mcd), .ref m3, .ref m4, .ref m5, .ref m6, .int (nI mev), .ref m7, .ref m8, .ref m9, .ref m10, .ref m11, .ref m12, .ref m13, .int mwh, .int mps, .ref m14, .ref m15, .long mlr, .int (nI mlt), .int (nI mlm), .ref m16, .int mln, .ref m17])), (m5, .inl (cI, 60, .inl gbh)), (m7, .inl (cI, 30, .inl gtr)), (m9, .inl (cL, 30, .inr (.inl gtn))), (m14, .inl (cI, 8, .inl gch)), (m16, .inl (cI, 8, .inl gle))]) [2, 0, 3, 4, 5, 1] rfl
    have hD9 := hD.sub (ws' := [(m0, .inr (9, [.int mth, .int (nI mt), .ref m1, .ref m2, .int mf, .int (nI mcd), .ref m3, .ref m4, .ref m5, .ref m6, .int (nI mev), .ref m7, .ref m8, .ref m9, .ref m10, .ref m11, .ref m12, .ref m13, .int mwh, .int mps, .ref m14, .ref m15, .long mlr, .int (nI mlt), .int (nI mlm), .ref m16, .int mln, .ref m17])), (m5, .inl (cI, 60, .inl gbh)), (m7, .inl (cI, 30, .inl gtr)), (m9, .inl (cL, 30, .inr (.inl gtn))), (m14, .inl (cI, 8, .inl gch)), (m16, .inl (cI, 8, .inl gle))]) [2, 0, 3, 4, 5, 1] (by decide) rfl
    subst hQ
    exact W.vret hx hb hr (fun t9 ht9 hW => ⟨⟨(), rfl, trivial, mps, mlr, mlt, mlm, gle, (by first | assumption | omega | trivial | exact AllLt.zero | exact AllN.zero | exact AllM.zero | exact Or.inl rfl | exact Or.inr rfl), (by first | assumption | omega | trivial | exact AllLt.zero | exact AllN.zero | exact AllM.zero | exact Or.inl rfl | exact Or.inr rfl), (by first | assumption | omega | trivial | exact AllLt.zero | exact AllN.zero | exact AllM.zero | exact Or.inl rfl | exact Or.inr rfl), by rw [ht9]; exact hP9, hD9⟩, hS.F ht9⟩) hS.2.2 d_Mo_found_9
