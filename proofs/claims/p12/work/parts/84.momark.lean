set_option maxHeartbeats 4000000 in
set_option maxRecDepth 100000 in
theorem e_Mo_markingOf (l : Launch) (dC : Nat → ClassId) (dI : Nat → Nat → Nat) (cI cL cZ : ClassId) (sz : Nat) (m0 : Nat) (m1 : Nat) (m2 : Nat) (m3 : Nat) (m4 : Nat) (m5 : Nat) (m6 : Nat) (m7 : Nat) (m8 : Nat) (m9 : Nat) (m10 : Nat) (m11 : Nat) (m12 : Nat) (m13 : Nat) (m14 : Nat) (m15 : Nat) (m16 : Nat) (m17 : Nat) (mth : Int32) (mt : Nat) (mf : Int32) (mcd : Nat) (mev : Nat) (mwh : Int32) (mps : Int32) (mlr : Int64) (mlt : Nat) (mlm : Nat) (mln : Int32) (mp : Nat → Int32) (mq : Nat → Int32) (gtr : Nat → Int32) (x : Int64) (N : Net8) (P : Px) (X : Nat → Prop) (hev : mev ≤ 30) (hne : mev = P.ne) (hO : PxOk N P) (hC : EvConf P.bh P.tkP P.mo X) (hXB : B64 x X) (hXc : ∀ a, X a → P.ct a = false) (hTra : TraI mev gtr P.tr) (hfB : B32 mf (fun p => p < 8 ∧ N.fi p = true)) (hmpB : ∀ a, a < P.ne → B32 (mp (P.tr a)) (fun p => p < 8 ∧ N.pr (P.tr a) p = true)) (hmqB : ∀ a, a < P.ne → B32 (mq (P.tr a)) (fun p => p < 8 ∧ N.po (P.tr a) p = true)) : Met l y_Mo_markingOf (Cond.code y_Mo_markingOf prog_11_method_13_code 5 (some .int) :: wsA) { frames := 1, cells := 0, slots := 0, locals := 22 } (va_Pc [.ref m0, .long x] (fun U => U.heap.size = sz ∧ va_P (dC, dI) clA [(m0, .inr (9, [.int mth, .int (nI mt), .ref m1, .ref m2, .int mf, .int (nI mcd), .ref m3, .ref m4, .ref m5, .ref m6, .int (nI mev), .ref m7, .ref m8, .ref m9, .ref m10, .ref m11, .ref m12, .ref m13, .int mwh, .int mps, .ref m14, .ref m15, .long mlr, .int (nI mlt), .int (nI mlm), .ref m16, .int mln, .ref m17])), (m1, .inl (cI, 8, .inl mp)), (m2, .inl (cI, 8, .inl mq)), (m7, .inl (cI, 30, .inl gtr))] U.heap ∧ va_K (dC, dI) clA [(cI, .int), (cL, .long), (cZ, .boolean)] U ∧ va_D (fun _ => True) [(m0, .inr (9, [.int mth, .int (nI mt), .ref m1, .ref m2, .int mf, .int (nI mcd), .ref m3, .ref m4, .ref m5, .ref m6, .int (nI mev), .ref m7, .ref m8, .ref m9, .ref m10, .ref m11, .ref m12, .ref m13, .int mwh, .int mps, .ref m14, .ref m15, .long mlr, .int (nI mlt), .int (nI mlm), .ref m16, .int mln, .ref m17])), (m1, .inl (cI, 8, .inl mp)), (m2, .inl (cI, 8, .inl mq)), (m7, .inl (cI, 30, .inl gtr))] ∧ NwA U)) (va_Qi (fun r (_ : Unit) => (B32 r (fun p => P.mrk X p))) (fun _ t => va_P (dC, dI) clA [(m0, .inr (9, [.int mth, .int (nI mt), .ref m1, .ref m2, .int mf, .int (nI mcd), .ref m3, .ref m4, .ref m5, .ref m6, .int (nI mev), .ref m7, .ref m8, .ref m9, .ref m10, .ref m11, .ref m12, .ref m13, .int mwh, .int mps, .ref m14, .ref m15, .long mlr, .int (nI mlt), .int (nI mlm), .ref m16, .int mln, .ref m17])), (m1, .inl (cI, 8, .inl mp)), (m2, .inl (cI, 8, .inl mq)), (m7, .inl (cI, 30, .inl gtr))] t.heap ∧ va_D (va_A [(m0, .inr (9, [.int mth, .int (nI mt), .ref m1, .ref m2, .int mf, .int (nI mcd), .ref m3, .ref m4, .ref m5, .ref m6, .int (nI mev), .ref m7, .ref m8, .ref m9, .ref m10, .ref m11, .ref m12, .ref m13, .int mwh, .int mps, .ref m14, .ref m15, .long mlr, .int (nI mlt), .int (nI mlm), .ref m16, .int mln, .ref m17])), (m1, .inl (cI, 8, .inl mp)), (m2, .inl (cI, 8, .inl mq)), (m7, .inl (cI, 30, .inl gtr))] sz) [(m0, .inr (9, [.int mth, .int (nI mt), .ref m1, .ref m2, .int mf, .int (nI mcd), .ref m3, .ref m4, .ref m5, .ref m6, .int (nI mev), .ref m7, .ref m8, .ref m9, .ref m10, .ref m11, .ref m12, .ref m13, .int mwh, .int mps, .ref m14, .ref m15, .long mlr, .int (nI mlt), .int (nI mlm), .ref m16, .int mln, .ref m17])), (m1, .inl (cI, 8, .inl mp)), (m2, .inl (cI, 8, .inl mq)), (m7, .inl (cI, 30, .inl gtr))]) (va_A [(m0, .inr (9, [.int mth, .int (nI mt), .ref m1, .ref m2, .int mf, .int (nI mcd), .ref m3, .ref m4, .ref m5, .ref m6, .int (nI mev), .ref m7, .ref m8, .ref m9, .ref m10, .ref m11, .ref m12, .ref m13, .int mwh, .int mps, .ref m14, .ref m15, .long mlr, .int (nI mlt), .int (nI mlm), .ref m16, .int mln, .ref m17])), (m1, .inl (cI, 8, .inl mp)), (m2, .inl (cI, 8, .inl mq)), (m7, .inl (cI, 30, .inl gtr))] sz)) 0 0 (va_A [(m0, .inr (9, [.int mth, .int (nI mt), .ref m1, .ref m2, .int mf, .int (nI mcd), .ref m3, .ref m4, .ref m5, .ref m6, .int (nI mev), .ref m7, .ref m8, .ref m9, .ref m10, .ref m11, .ref m12, .ref m13, .int mwh, .int mps, .ref m14, .ref m15, .long mlr, .int (nI mlt), .int (nI mlm), .ref m16, .int mln, .ref m17])), (m1, .inl (cI, 8, .inl mp)), (m2, .inl (cI, 8, .inl mq)), (m7, .inl (cI, 30, .inl gtr))] sz) := by
  refine Met.ofW (cc := prog_11_method_13_code) (maxL := 5) (ret := (some .int)) (by decide) rfl ?_
  intro p e s m args below meth c s₁ B hml hv
  obtain ⟨rfl, hsz, hP, hK, hD0, hN⟩ := hv
  have hx := B.exec
  have hb := B.bytes
  have hr := B.returns
  have ht : ∀ w ∈ wsA, w.before _ s = true := fun w h => atoms_spec (ws := (Cond.code y_Mo_markingOf prog_11_method_13_code 5 (some .int) :: wsA)) B.pre w (List.mem_cons_of_mem _ h)
  have hown : s.vm.findClass "NetUnfolderModel" = some m.cls := findClass_of_methodNamed B.named
  have hlocks := B.notSynchronized
  subst hsz
  have hD := hD0.self (sz := s.heap.size)
  generalize hAe : va_A [(m0, .inr (9, [.int mth, .int (nI mt), .ref m1, .ref m2, .int mf, .int (nI mcd), .ref m3, .ref m4, .ref m5, .ref m6, .int (nI mev), .ref m7, .ref m8, .ref m9, .ref m10, .ref m11, .ref m12, .ref m13, .int mwh, .int mps, .ref m14, .ref m15, .long mlr, .int (nI mlt), .int (nI mlm), .ref m16, .int mln, .ref m17])), (m1, .inl (cI, 8, .inl mp)), (m2, .inl (cI, 8, .inl mq)), (m7, .inl (cI, 30, .inl gtr))] s.heap.size = A at hD ⊢
  have hA : ∀ q : Nat, s.heap.size ≤ q → A q := fun q h => by rw [← hAe]; exact Or.inr h
  have hS : va_S A s.heap s.heap [] := va_S.rf
  have hl := lv_entry ([.ref m0, .long x]) (n := 5) (Nat.le_of_ble_eq_true rfl)
  rw [lg_entry_eq]
  generalize (lg_sl ([.ref m0, .long x]) ++ List.replicate (5 - (lg_sl ([.ref m0, .long x])).length) Slot.unset).toArray = ls at hl ⊢
  replace hl : lv_has ls 5 [(0, .ref m0), (1, .long x)] := hl
  refine W_Q (fun Q hQ => ?_)
  refine lv_aload_n hx hb d_Mo_markingOf_0 rfl (lv_at hl 0 rfl) ?_
  refine va_get (D := (dC, dI)) (ci := 9) (v := .int mf) (C := "NetUnfolderModel") (T := T_Mo) (N := 28) hx hb ht in_Mo hown hK hP 0 rfl rfl 4 (by decide) (ht _ wd_4_4) (fun _ h9 => h9) rfl d_Mo_markingOf_1 ?_
  refine lv_istore_n (lv' := [(3, .int mf), (0, .ref m0), (1, .long x)]) hx hb d_Mo_markingOf_4 rfl hl (by decide) rfl (fun ls hln => ?_)
  replace hl : lv_has ls 5 [(3, .int mf), (0, .ref m0), (1, .long x)] := hln
  clear hln
  refine lv_iconst (v := 0) hx hb d_Mo_markingOf_5 (by decide) ?_
  refine lv_istore (lv' := [(4, .int 0), (3, .int mf), (0, .ref m0), (1, .long x)]) hx hb d_Mo_markingOf_6 hl (by decide) rfl (fun ls hln => ?_)
  replace hl : lv_has ls 5 [(4, .int 0), (3, .int mf), (0, .ref m0), (1, .long x)] := hln
  clear hln
  have hloop1 : ∀ (n8 : Nat) (v : Int32) (i : Nat) (hi : i ≤ mev) (hv : B32 v (fun p => Mrk P.tkP P.mo P.pl X P.nc i p)) (H : Heap) (locs : List Loc) (ls : Array Slot) (hl : lv_has ls 5 [(0, .ref m0), (1, .long x), (3, .int v), (4, .int (nI i))]) (hP : va_P (dC, dI) clA [(m0, .inr (9, [.int mth, .int (nI mt), .ref m1, .ref m2, .int mf, .int (nI mcd), .ref m3, .ref m4, .ref m5, .ref m6, .int (nI mev), .ref m7, .ref m8, .ref m9, .ref m10, .ref m11, .ref m12, .ref m13, .int mwh, .int mps, .ref m14, .ref m15, .long mlr, .int (nI mlt), .int (nI mlm), .ref m16, .int mln, .ref m17])), (m1, .inl (cI, 8, .inl mp)), (m2, .inl (cI, 8, .inl mq)), (m7, .inl (cI, 30, .inl gtr))] H) (hD : va_D A [(m0, .inr (9, [.int mth, .int (nI mt), .ref m1, .ref m2, .int mf, .int (nI mcd), .ref m3, .ref m4, .ref m5, .ref m6, .int (nI mev), .ref m7, .ref m8, .ref m9, .ref m10, .ref m11, .ref m12, .ref m13, .int mwh, .int mps, .ref m14, .ref m15, .long mlr, .int (nI mlt), .int (nI mlm), .ref m16, .int mln, .ref m17])), (m1, .inl (cI, 8, .inl mp)), (m2, .inl (cI, 8, .inl mq)), (m7, .inl (cI, 30, .inl gtr))]) (hS : va_S A s.heap H locs) (hm8 : mev - i < n8), W p l e (headSpec (Cond.code y_Mo_markingOf prog_11_method_13_code 5 (some .int) :: wsA) { frames := 1, cells := 0, slots := 0, locals := 22 }).room s m ([.ref m0, .long x] : List Value).toArray below meth c H locs 0 0 Q (F0 m 8 ls []) := by
    clear hl hP hD hS
    intro n8
    induction n8 with
    | zero => intro v i hi hv H locs ls hl hP hD hS hm; exact absurd hm (Nat.not_lt_zero _)
    | succ n8 hloop1_ih =>
      intro v i hi hv H locs ls hl hP hD hS hm8
      refine lv_iload hx hb d_Mo_markingOf_8 (lv_at hl 3 rfl) ?_
      refine lv_aload_n hx hb d_Mo_markingOf_10 rfl (lv_at hl 0 rfl) ?_
      refine va_get (D := (dC, dI)) (ci := 9) (v := .int (nI mev)) (C := "NetUnfolderModel") (T := T_Mo) (N := 28) hx hb ht in_Mo hown hK hP 0 rfl rfl 10 (by decide) (ht _ wd_4_10) (fun _ h9 => h9) rfl d_Mo_markingOf_11 ?_
      refine lv_icmp_ge (tgt := 65) hx hb d_Mo_markingOf_14 (by decide) (fun hb2 => ?_) (fun hb2 => ?_)
      · skip
        replace hb2 := cv_le (a := mev) (b := i) (by omega) (by omega) hb2
        refine lv_iload_n hx hb d_Mo_markingOf_65 rfl (lv_at hl 2 rfl) ?_
        have hP9 := hP.sub (ws' := [(m0, .inr (9, [.int mth, .int (nI mt), .ref m1, .ref m2, .int mf, .int (nI mcd), .ref m3, .ref m4, .ref m5, .ref m6, .int (nI mev), .ref m7, .ref m8, .ref m9, .ref m10, .ref m11, .ref m12, .ref m13, .int mwh, .int mps, .ref m14, .ref m15, .long mlr, .int (nI mlt), .int (nI mlm), .ref m16, .int mln, .ref m17])), (m1, .inl (cI, 8, .inl mp)), (m2, .inl (cI, 8, .inl mq)), (m7, .inl (cI, 30, .inl gtr))]) [0, 1, 2, 3] rfl
        have hD9 := hD.sub (ws' := [(m0, .inr (9, [.int mth, .int (nI mt), .ref m1, .ref m2, .int mf, .int (nI mcd), .ref m3, .ref m4, .ref m5, .ref m6, .int (nI mev), .ref m7, .ref m8, .ref m9, .ref m10, .ref m11, .ref m12, .ref m13, .int mwh, .int mps, .ref m14, .ref m15, .long mlr, .int (nI mlt), .int (nI mlm), .ref m16, .int mln, .ref m17])), (m1, .inl (cI, 8, .inl mp)), (m2, .inl (cI, 8, .inl mq)), (m7, .inl (cI, 30, .inl gtr))]) [0, 1, 2, 3] (by decide) rfl
        subst hQ
        exact W.iret (v := v) hx hb hr (fun t9 ht9 hW => ⟨⟨v, (), rfl, (hv.congr (fun p => by have e9 : i = P.ne := (by omega); rw [e9]; exact Iff.rfl)), by rw [ht9]; exact hP9, hD9⟩, hS.F ht9⟩) hS.2.2 d_Mo_markingOf_66
      · skip
        replace hb2 := cv_nle (a := mev) (b := i) (by omega) (by omega) hb2
        refine lv_lload_n hx hb d_Mo_markingOf_17 rfl (lv_at hl 1 rfl) ?_
        refine lv_iload hx hb d_Mo_markingOf_18 (lv_at hl 3 rfl) ?_
        have hPc : va_P (dC, dI) clA [] _ := pu_P (H := H)
        have hDc : va_D (fun _ => True) [] := pu_D
        have hFc := pu_free hS hA
        refine va_calli (va_runS (As := [.long x, .int (nI i)]) (rest := []) ⟨hx, hb, hml, hown, ht⟩ (c_Mo_has l dC dI cI cL cZ _ x i (by first | assumption | omega | trivial | exact AllLt.zero | exact AllN.zero | exact AllM.zero | exact Or.inl rfl | exact Or.inr rfl)) (va_cwS 2 ht (good_S wd_4_121 wd_4_122 wd_1_10 wd_4_123) rfl rfl rfl (by decide +kernel) ⟨Nat.le_of_ble_eq_true rfl, Nat.le_of_ble_eq_true rfl⟩) ⟨fun a U g mk q => by obtain ⟨q0, q1, qP, qK, qD, qN⟩ := q; exact ⟨q0, q1, qP, va_K.moved (u := U) (U := U.calling g mk a) (Vm.Alike.refl U.vm) qK, qD, NwA.same (u := U) rfl qN⟩, fun U hU hW => ⟨rfl, by rw [hU], by rw [hU]; exact hPc, va_K.moved hW.alike hK, hDc.weaken (fun _ _ _ _ => trivial), NwA.warm hW hN⟩⟩ rfl rfl hl.1 rfl (lv_room (Nat.le_of_ble_eq_true rfl)) d_Mo_markingOf_20 ⟨Nat.le_of_ble_eq_true rfl, Nat.le_of_ble_eq_true rfl⟩) hS (fun q _ h => hFc q h) hFc (fun r5 u9 t9 H3 locs ht9 hvm hw4 hB hz1 hk1 hSn => ?_)
        replace hP : va_P (dC, dI) clA [(m0, .inr (9, [.int mth, .int (nI mt), .ref m1, .ref m2, .int mf, .int (nI mcd), .ref m3, .ref m4, .ref m5, .ref m6, .int (nI mev), .ref m7, .ref m8, .ref m9, .ref m10, .ref m11, .ref m12, .ref m13, .int mwh, .int mps, .ref m14, .ref m15, .long mlr, .int (nI mlt), .int (nI mlm), .ref m16, .int mln, .ref m17])), (m1, .inl (cI, 8, .inl mp)), (m2, .inl (cI, 8, .inl mq)), (m7, .inl (cI, 30, .inl gtr))] H3 := pu_keep hP hk1
        replace hS := hSn
        clear hSn hPc hDc hFc hk1 hz1 ht9 hvm hB
        refine W.cs (cells' := 0) (slots' := 0) rfl rfl ?_
        subst hw4
        refine lv_if_eq (tgt := 57) hx hb d_Mo_markingOf_23 (by decide) (fun hb6 => ?_) (fun hb6 => ?_)
        · skip
          refine lv_iload_n hx hb d_Mo_markingOf_57 rfl (lv_at hl 2 rfl) ?_
          refine lv_istore_n (lv' := [(3, .int v), (0, .ref m0), (1, .long x), (4, .int (nI i))]) hx hb d_Mo_markingOf_58 rfl hl (by decide) rfl (fun ls hln => ?_)
          replace hl : lv_has ls 5 [(3, .int v), (0, .ref m0), (1, .long x), (4, .int (nI i))] := hln
          clear hln
          refine lv_iinc (k := 3) (v := nI (i + 1)) (lv' := [(4, .int (nI (i + 1))), (3, .int v), (0, .ref m0), (1, .long x)]) hx hb d_Mo_markingOf_59 hl rfl (nI_1 _) (by decide) rfl (fun ls hln => ?_)
          replace hl : lv_has ls 5 [(4, .int (nI (i + 1))), (3, .int v), (0, .ref m0), (1, .long x)] := hln
          clear hln
          refine lv_goto (tgt := 8) hx hb d_Mo_markingOf_62 (by decide) ?_
          exact hloop1_ih v (i + 1) (by first | assumption | omega | trivial | exact AllLt.zero | exact AllN.zero | exact AllM.zero | exact Or.inl rfl | exact Or.inr rfl) (hv.congr (fun p => (mrk_skip (hXB.has.mp hb6) p).symm)) _ _ ls (lv_sub hl [2, 3, 1, 0] rfl) (hP.sub [0, 1, 2, 3] rfl) (hD.sub [0, 1, 2, 3] (by decide) rfl) hS (by omega)
        · skip
          have hXi : X i := Classical.byContradiction (fun z9 => hb6 (hXB.has.mpr z9))
          refine lv_iload_n hx hb d_Mo_markingOf_26 rfl (lv_at hl 2 rfl) ?_
          refine lv_aload_n hx hb d_Mo_markingOf_27 rfl (lv_at hl 0 rfl) ?_
          refine va_get (D := (dC, dI)) (ci := 9) (v := .ref m1) (C := "NetUnfolderModel") (T := T_Mo) (N := 28) hx hb ht in_Mo hown hK hP 0 rfl rfl 2 (by decide) (ht _ wd_4_2) (fun _ h9 => h9) rfl d_Mo_markingOf_28 ?_
          refine lv_aload_n hx hb d_Mo_markingOf_31 rfl (lv_at hl 0 rfl) ?_
          refine va_get (D := (dC, dI)) (ci := 9) (v := .ref m7) (C := "NetUnfolderModel") (T := T_Mo) (N := 28) hx hb ht in_Mo hown hK hP 0 rfl rfl 11 (by decide) (ht _ wd_4_11) (fun _ h9 => h9) rfl d_Mo_markingOf_32 ?_
          refine lv_iload hx hb d_Mo_markingOf_35 (lv_at hl 3 rfl) ?_
          refine na_iald (k := i) hx hb hK hP 3 0 rfl rfl (by omega) (by decide) d_Mo_markingOf_37 ?_
          refine ci_i (y := nI (P.tr i)) (hTra i (by omega)).1 ?_
          have htq7 := (hTra i (by omega)).2
          refine na_iald (k := (P.tr i)) hx hb hK hP 1 0 rfl rfl (by omega) (by decide) d_Mo_markingOf_38 ?_
          refine lv_aload_n hx hb d_Mo_markingOf_39 rfl (lv_at hl 0 rfl) ?_
          refine va_get (D := (dC, dI)) (ci := 9) (v := .ref m2) (C := "NetUnfolderModel") (T := T_Mo) (N := 28) hx hb ht in_Mo hown hK hP 0 rfl rfl 3 (by decide) (ht _ wd_4_3) (fun _ h9 => h9) rfl d_Mo_markingOf_40 ?_
          refine lv_aload_n hx hb d_Mo_markingOf_43 rfl (lv_at hl 0 rfl) ?_
          refine va_get (D := (dC, dI)) (ci := 9) (v := .ref m7) (C := "NetUnfolderModel") (T := T_Mo) (N := 28) hx hb ht in_Mo hown hK hP 0 rfl rfl 11 (by decide) (ht _ wd_4_11) (fun _ h9 => h9) rfl d_Mo_markingOf_44 ?_
          refine lv_iload hx hb d_Mo_markingOf_47 (lv_at hl 3 rfl) ?_
          refine na_iald (k := i) hx hb hK hP 3 0 rfl rfl (by omega) (by decide) d_Mo_markingOf_49 ?_
          refine ci_i (y := nI (P.tr i)) (hTra i (by omega)).1 ?_
          have htq8 := (hTra i (by omega)).2
          refine na_iald (k := (P.tr i)) hx hb hK hP 2 0 rfl rfl (by omega) (by decide) d_Mo_markingOf_50 ?_
          have hPc : va_P (dC, dI) clA [] _ := pu_P (H := H3)
          have hDc : va_D (fun _ => True) [] := pu_D
          have hFc := pu_free hS hA
          refine va_calli (va_runS (As := [.int v, .int (mp (P.tr i)), .int (mq (P.tr i))]) (rest := []) ⟨hx, hb, hml, hown, ht⟩ (e_Mo_fire l dC dI cI cL cZ _ v (mp (P.tr i)) (mq (P.tr i)) ) (va_cwS 3 ht (good_S wd_4_185 wd_4_186 wd_1_10 wd_4_187) rfl rfl rfl (by decide +kernel) ⟨Nat.le_of_ble_eq_true rfl, Nat.le_of_ble_eq_true rfl⟩) ⟨fun a U g mk q => by obtain ⟨q0, q1, qP, qK, qD, qN⟩ := q; exact ⟨q0, q1, qP, va_K.moved (u := U) (U := U.calling g mk a) (Vm.Alike.refl U.vm) qK, qD, NwA.same (u := U) rfl qN⟩, fun U hU hW => ⟨rfl, by rw [hU], by rw [hU]; exact hPc, va_K.moved hW.alike hK, hDc.weaken (fun _ _ _ _ => trivial), NwA.warm hW hN⟩⟩ rfl rfl hl.1 rfl (lv_room (Nat.le_of_ble_eq_true rfl)) d_Mo_markingOf_51 ⟨Nat.le_of_ble_eq_true rfl, Nat.le_of_ble_eq_true rfl⟩) hS (fun q _ h => hFc q h) hFc (fun r11 u9 t9 H9 locs ht9 hvm hw10 hB hz1 hk1 hSn => ?_)
          replace hP : va_P (dC, dI) clA [(m0, .inr (9, [.int mth, .int (nI mt), .ref m1, .ref m2, .int mf, .int (nI mcd), .ref m3, .ref m4, .ref m5, .ref m6, .int (nI mev), .ref m7, .ref m8, .ref m9, .ref m10, .ref m11, .ref m12, .ref m13, .int mwh, .int mps, .ref m14, .ref m15, .long mlr, .int (nI mlt), .int (nI mlm), .ref m16, .int mln, .ref m17])), (m1, .inl (cI, 8, .inl mp)), (m2, .inl (cI, 8, .inl mq)), (m7, .inl (cI, 30, .inl gtr))] H9 := pu_keep hP hk1
          replace hS := hSn
          clear hSn hPc hDc hFc hk1 hz1 ht9 hvm hB
          refine W.cs (cells' := 0) (slots' := 0) rfl rfl ?_
          subst hw10
          refine lv_goto (tgt := 58) hx hb d_Mo_markingOf_54 (by decide) ?_
          refine lv_istore_n (lv' := [(3, .int ((v &&& ((mp (P.tr i)) ^^^ (-1))) ||| (mq (P.tr i)))), (0, .ref m0), (1, .long x), (4, .int (nI i))]) hx hb d_Mo_markingOf_58 rfl hl (by decide) rfl (fun ls hln => ?_)
          replace hl : lv_has ls 5 [(3, .int ((v &&& ((mp (P.tr i)) ^^^ (-1))) ||| (mq (P.tr i)))), (0, .ref m0), (1, .long x), (4, .int (nI i))] := hln
          clear hln
          refine lv_iinc (k := 3) (v := nI (i + 1)) (lv' := [(4, .int (nI (i + 1))), (3, .int ((v &&& ((mp (P.tr i)) ^^^ (-1))) ||| (mq (P.tr i)))), (0, .ref m0), (1, .long x)]) hx hb d_Mo_markingOf_59 hl rfl (nI_1 _) (by decide) rfl (fun ls hln => ?_)
          replace hl : lv_has ls 5 [(4, .int (nI (i + 1))), (3, .int ((v &&& ((mp (P.tr i)) ^^^ (-1))) ||| (mq (P.tr i)))), (0, .ref m0), (1, .long x)] := hln
          clear hln
          refine lv_goto (tgt := 8) hx hb d_Mo_markingOf_62 (by decide) ?_
          exact hloop1_ih ((v &&& ((mp (P.tr i)) ^^^ (-1))) ||| (mq (P.tr i))) (i + 1) (by first | assumption | omega | trivial | exact AllLt.zero | exact AllN.zero | exact AllM.zero | exact Or.inl rfl | exact Or.inr rfl) (mrk_B hO hC hXi (by omega) (hXc i hXi) hv (hmpB i (by omega)) (hmqB i (by omega))) _ _ ls (lv_sub hl [2, 3, 1, 0] rfl) (hP.sub [0, 1, 2, 3] rfl) (hD.sub [0, 1, 2, 3] (by decide) rfl) hS (by omega)
  exact hloop1 ((mev - 0) + 1) mf 0 (by first | assumption | omega | trivial | exact AllLt.zero | exact AllN.zero | exact AllM.zero | exact Or.inl rfl | exact Or.inr rfl) (hfB.congr (fun p => (hO.mzero p).symm)) _ _ ls (lv_sub hl [2, 3, 1, 0] rfl) hP hD hS (Nat.lt_succ_self _)
