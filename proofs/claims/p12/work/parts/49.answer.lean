set_option maxHeartbeats 4000000 in
set_option maxRecDepth 100000 in
theorem c_Mo_stuck (l : Launch) (dC : Nat → ClassId) (dI : Nat → Nat → Nat) (cI cL cZ : ClassId) (sz : Nat) (m0 : Nat) (m1 : Nat) (m2 : Nat) (m3 : Nat) (m4 : Nat) (m5 : Nat) (m6 : Nat) (m7 : Nat) (m8 : Nat) (m9 : Nat) (m10 : Nat) (m11 : Nat) (m12 : Nat) (m13 : Nat) (m14 : Nat) (m15 : Nat) (m16 : Nat) (m17 : Nat) (mth : Int32) (mt : Nat) (mf : Int32) (mcd : Nat) (mev : Nat) (mwh : Int32) (mps : Int32) (mlr : Int64) (mlt : Nat) (mlm : Nat) (mln : Int32) (mp : Nat → Int32) (x : Int32) (hmt : mt ≤ 8) : Met l y_Mo_stuck (Cond.code y_Mo_stuck prog_11_method_30_code 4 (some .boolean) :: wsA) { frames := 0, cells := 0, slots := 0, locals := 0 } (va_Pc [.ref m0, .int x] (fun U => U.heap.size = sz ∧ va_P (dC, dI) clA [(m0, .inr (9, [.int mth, .int (nI mt), .ref m1, .ref m2, .int mf, .int (nI mcd), .ref m3, .ref m4, .ref m5, .ref m6, .int (nI mev), .ref m7, .ref m8, .ref m9, .ref m10, .ref m11, .ref m12, .ref m13, .int mwh, .int mps, .ref m14, .ref m15, .long mlr, .int (nI mlt), .int (nI mlm), .ref m16, .int mln, .ref m17])), (m1, .inl (cI, 8, .inl mp))] U.heap ∧ va_K (dC, dI) clA [(cI, .int), (cL, .long), (cZ, .boolean)] U ∧ va_D (fun _ => True) [(m0, .inr (9, [.int mth, .int (nI mt), .ref m1, .ref m2, .int mf, .int (nI mcd), .ref m3, .ref m4, .ref m5, .ref m6, .int (nI mev), .ref m7, .ref m8, .ref m9, .ref m10, .ref m11, .ref m12, .ref m13, .int mwh, .int mps, .ref m14, .ref m15, .long mlr, .int (nI mlt), .int (nI mlm), .ref m16, .int mln, .ref m17])), (m1, .inl (cI, 8, .inl mp))] ∧ NwA U)) (va_Qi (fun r (_ : Unit) => (r = 0 ∨ r = 1)) (fun _ t => va_P (dC, dI) clA [(m0, .inr (9, [.int mth, .int (nI mt), .ref m1, .ref m2, .int mf, .int (nI mcd), .ref m3, .ref m4, .ref m5, .ref m6, .int (nI mev), .ref m7, .ref m8, .ref m9, .ref m10, .ref m11, .ref m12, .ref m13, .int mwh, .int mps, .ref m14, .ref m15, .long mlr, .int (nI mlt), .int (nI mlm), .ref m16, .int mln, .ref m17])), (m1, .inl (cI, 8, .inl mp))] t.heap ∧ va_D (va_A [(m0, .inr (9, [.int mth, .int (nI mt), .ref m1, .ref m2, .int mf, .int (nI mcd), .ref m3, .ref m4, .ref m5, .ref m6, .int (nI mev), .ref m7, .ref m8, .ref m9, .ref m10, .ref m11, .ref m12, .ref m13, .int mwh, .int mps, .ref m14, .ref m15, .long mlr, .int (nI mlt), .int (nI mlm), .ref m16, .int mln, .ref m17])), (m1, .inl (cI, 8, .inl mp))] sz) [(m0, .inr (9, [.int mth, .int (nI mt), .ref m1, .ref m2, .int mf, .int (nI mcd), .ref m3, .ref m4, .ref m5, .ref m6, .int (nI mev), .ref m7, .ref m8, .ref m9, .ref m10, .ref m11, .ref m12, .ref m13, .int mwh, .int mps, .ref m14, .ref m15, .long mlr, .int (nI mlt), .int (nI mlm), .ref m16, .int mln, .ref m17])), (m1, .inl (cI, 8, .inl mp))]) (va_A [(m0, .inr (9, [.int mth, .int (nI mt), .ref m1, .ref m2, .int mf, .int (nI mcd), .ref m3, .ref m4, .ref m5, .ref m6, .int (nI mev), .ref m7, .ref m8, .ref m9, .ref m10, .ref m11, .ref m12, .ref m13, .int mwh, .int mps, .ref m14, .ref m15, .long mlr, .int (nI mlt), .int (nI mlm), .ref m16, .int mln, .ref m17])), (m1, .inl (cI, 8, .inl mp))] sz)) 0 0 (va_A [(m0, .inr (9, [.int mth, .int (nI mt), .ref m1, .ref m2, .int mf, .int (nI mcd), .ref m3, .ref m4, .ref m5, .ref m6, .int (nI mev), .ref m7, .ref m8, .ref m9, .ref m10, .ref m11, .ref m12, .ref m13, .int mwh, .int mps, .ref m14, .ref m15, .long mlr, .int (nI mlt), .int (nI mlm), .ref m16, .int mln, .ref m17])), (m1, .inl (cI, 8, .inl mp))] sz) := by
  refine Met.ofW (cc := prog_11_method_30_code) (maxL := 4) (ret := (some .boolean)) (by decide) rfl ?_
  intro p e s m args below meth c s₁ B hml hv
  obtain ⟨rfl, hsz, hP, hK, hD0, hN⟩ := hv
  have hx := B.exec
  have hb := B.bytes
  have hr := B.returns
  have ht : ∀ w ∈ wsA, w.before _ s = true := fun w h => atoms_spec (ws := (Cond.code y_Mo_stuck prog_11_method_30_code 4 (some .boolean) :: wsA)) B.pre w (List.mem_cons_of_mem _ h)
  have hown : s.vm.findClass "NetUnfolderModel" = some m.cls := findClass_of_methodNamed B.named
  have hlocks := B.notSynchronized
  subst hsz
  have hD := hD0.self (sz := s.heap.size)
  generalize hAe : va_A [(m0, .inr (9, [.int mth, .int (nI mt), .ref m1, .ref m2, .int mf, .int (nI mcd), .ref m3, .ref m4, .ref m5, .ref m6, .int (nI mev), .ref m7, .ref m8, .ref m9, .ref m10, .ref m11, .ref m12, .ref m13, .int mwh, .int mps, .ref m14, .ref m15, .long mlr, .int (nI mlt), .int (nI mlm), .ref m16, .int mln, .ref m17])), (m1, .inl (cI, 8, .inl mp))] s.heap.size = A at hD ⊢
  have hA : ∀ q : Nat, s.heap.size ≤ q → A q := fun q h => by rw [← hAe]; exact Or.inr h
  have hS : va_S A s.heap s.heap [] := va_S.rf
  have hl := lv_entry ([.ref m0, .int x]) (n := 4) (Nat.le_of_ble_eq_true rfl)
  rw [lg_entry_eq]
  generalize (lg_sl ([.ref m0, .int x]) ++ List.replicate (4 - (lg_sl ([.ref m0, .int x])).length) Slot.unset).toArray = ls at hl ⊢
  replace hl : lv_has ls 4 [(0, .ref m0), (1, .int x)] := hl
  refine W_Q (fun Q hQ => ?_)
  refine lv_iconst (v := 1) hx hb d_Mo_stuck_0 (by decide) ?_
  refine lv_istore_n (lv' := [(2, .int 1), (0, .ref m0), (1, .int x)]) hx hb d_Mo_stuck_1 rfl hl (by decide) rfl (fun ls hln => ?_)
  replace hl : lv_has ls 4 [(2, .int 1), (0, .ref m0), (1, .int x)] := hln
  clear hln
  refine lv_iconst (v := 0) hx hb d_Mo_stuck_2 (by decide) ?_
  refine lv_istore_n (lv' := [(3, .int 0), (2, .int 1), (0, .ref m0), (1, .int x)]) hx hb d_Mo_stuck_3 rfl hl (by decide) rfl (fun ls hln => ?_)
  replace hl : lv_has ls 4 [(3, .int 0), (2, .int 1), (0, .ref m0), (1, .int x)] := hln
  clear hln
  have hloop1 : ∀ (n4 : Nat) (v : Int32) (i : Nat) (hi : i ≤ mt) (hv : v = 0 ∨ v = 1) (H : Heap) (locs : List Loc) (ls : Array Slot) (hl : lv_has ls 4 [(0, .ref m0), (1, .int x), (2, .int v), (3, .int (nI i))]) (hP : va_P (dC, dI) clA [(m0, .inr (9, [.int mth, .int (nI mt), .ref m1, .ref m2, .int mf, .int (nI mcd), .ref m3, .ref m4, .ref m5, .ref m6, .int (nI mev), .ref m7, .ref m8, .ref m9, .ref m10, .ref m11, .ref m12, .ref m13, .int mwh, .int mps, .ref m14, .ref m15, .long mlr, .int (nI mlt), .int (nI mlm), .ref m16, .int mln, .ref m17])), (m1, .inl (cI, 8, .inl mp))] H) (hD : va_D A [(m0, .inr (9, [.int mth, .int (nI mt), .ref m1, .ref m2, .int mf, .int (nI mcd), .ref m3, .ref m4, .ref m5, .ref m6, .int (nI mev), .ref m7, .ref m8, .ref m9, .ref m10, .ref m11, .ref m12, .ref m13, .int mwh, .int mps, .ref m14, .ref m15, .long mlr, .int (nI mlt), .int (nI mlm), .ref m16, .int mln, .ref m17])), (m1, .inl (cI, 8, .inl mp))]) (hS : va_S A s.heap H locs) (hm4 : mt - i < n4), W p l e (headSpec (Cond.code y_Mo_stuck prog_11_method_30_code 4 (some .boolean) :: wsA) { frames := 0, cells := 0, slots := 0, locals := 0 }).room s m ([.ref m0, .int x] : List Value).toArray below meth c H locs 0 0 Q (F0 m 4 ls []) := by
    clear hl hP hD hS
    intro n4
    induction n4 with
    | zero => intro v i hi hv H locs ls hl hP hD hS hm; exact absurd hm (Nat.not_lt_zero _)
    | succ n4 hloop1_ih =>
      intro v i hi hv H locs ls hl hP hD hS hm4
      refine lv_iload_n hx hb d_Mo_stuck_4 rfl (lv_at hl 3 rfl) ?_
      refine lv_aload_n hx hb d_Mo_stuck_5 rfl (lv_at hl 0 rfl) ?_
      refine va_get (D := (dC, dI)) (ci := 9) (v := .int (nI mt)) (C := "NetUnfolderModel") (T := T_Mo) (N := 28) hx hb ht in_Mo hown hK hP 0 rfl rfl 1 (by decide) (ht _ wd_4_1) (fun _ h9 => h9) rfl d_Mo_stuck_6 ?_
      refine lv_icmp_ge (tgt := 45) hx hb d_Mo_stuck_9 (by decide) (fun hb2 => ?_) (fun hb2 => ?_)
      · skip
        replace hb2 := cv_le (a := mt) (b := i) (by omega) (by omega) hb2
        refine lv_iload_n hx hb d_Mo_stuck_45 rfl (lv_at hl 2 rfl) ?_
        have hP9 := hP.sub (ws' := [(m0, .inr (9, [.int mth, .int (nI mt), .ref m1, .ref m2, .int mf, .int (nI mcd), .ref m3, .ref m4, .ref m5, .ref m6, .int (nI mev), .ref m7, .ref m8, .ref m9, .ref m10, .ref m11, .ref m12, .ref m13, .int mwh, .int mps, .ref m14, .ref m15, .long mlr, .int (nI mlt), .int (nI mlm), .ref m16, .int mln, .ref m17])), (m1, .inl (cI, 8, .inl mp))]) [0, 1] rfl
        have hD9 := hD.sub (ws' := [(m0, .inr (9, [.int mth, .int (nI mt), .ref m1, .ref m2, .int mf, .int (nI mcd), .ref m3, .ref m4, .ref m5, .ref m6, .int (nI mev), .ref m7, .ref m8, .ref m9, .ref m10, .ref m11, .ref m12, .ref m13, .int mwh, .int mps, .ref m14, .ref m15, .long mlr, .int (nI mlt), .int (nI mlm), .ref m16, .int mln, .ref m17])), (m1, .inl (cI, 8, .inl mp))]) [0, 1] (by decide) rfl
        subst hQ
        exact W.zret (v := v) hx hb hr (bz_nar (by assumption)) (fun t9 ht9 hW => ⟨⟨v, (), rfl, hv, by rw [ht9]; exact hP9, hD9⟩, hS.F ht9⟩) hS.2.2 d_Mo_stuck_46
      · skip
        replace hb2 := cv_nle (a := mt) (b := i) (by omega) (by omega) hb2
        refine lv_iload_n hx hb d_Mo_stuck_12 rfl (lv_at hl 2 rfl) ?_
        refine lv_if_eq (tgt := 37) hx hb d_Mo_stuck_13 (by decide) (fun hb3 => ?_) (fun hb3 => ?_)
        · skip
          refine lv_iconst (v := 0) hx hb d_Mo_stuck_37 (by decide) ?_
          refine lv_istore_n (lv' := [(2, .int 0), (0, .ref m0), (1, .int x), (3, .int (nI i))]) hx hb d_Mo_stuck_38 rfl hl (by decide) rfl (fun ls hln => ?_)
          replace hl : lv_has ls 4 [(2, .int 0), (0, .ref m0), (1, .int x), (3, .int (nI i))] := hln
          clear hln
          refine lv_iinc (k := 3) (v := nI (i + 1)) (lv' := [(3, .int (nI (i + 1))), (2, .int 0), (0, .ref m0), (1, .int x)]) hx hb d_Mo_stuck_39 hl rfl (nI_1 _) (by decide) rfl (fun ls hln => ?_)
          replace hl : lv_has ls 4 [(3, .int (nI (i + 1))), (2, .int 0), (0, .ref m0), (1, .int x)] := hln
          clear hln
          refine lv_goto (tgt := 4) hx hb d_Mo_stuck_42 (by decide) ?_
          exact hloop1_ih 0 (i + 1) (by first | assumption | omega | trivial | exact AllLt.zero | exact AllN.zero | exact AllM.zero | exact Or.inl rfl | exact Or.inr rfl) (by first | assumption | omega | trivial | exact AllLt.zero | exact AllN.zero | exact AllM.zero | exact Or.inl rfl | exact Or.inr rfl) _ _ ls (lv_sub hl [2, 3, 1, 0] rfl) (hP.sub [0, 1] rfl) (hD.sub [0, 1] (by decide) rfl) hS (by omega)
        · skip
          refine lv_iload_n hx hb d_Mo_stuck_16 rfl (lv_at hl 1 rfl) ?_
          refine lv_aload_n hx hb d_Mo_stuck_17 rfl (lv_at hl 0 rfl) ?_
          refine va_get (D := (dC, dI)) (ci := 9) (v := .ref m1) (C := "NetUnfolderModel") (T := T_Mo) (N := 28) hx hb ht in_Mo hown hK hP 0 rfl rfl 2 (by decide) (ht _ wd_4_2) (fun _ h9 => h9) rfl d_Mo_stuck_18 ?_
          refine lv_iload_n hx hb d_Mo_stuck_21 rfl (lv_at hl 3 rfl) ?_
          refine na_iald (k := i) hx hb hK hP 1 0 rfl rfl (by omega) (by decide) d_Mo_stuck_22 ?_
          refine lv_iand hx hb d_Mo_stuck_23 ?_
          refine lv_aload_n hx hb d_Mo_stuck_24 rfl (lv_at hl 0 rfl) ?_
          refine va_get (D := (dC, dI)) (ci := 9) (v := .ref m1) (C := "NetUnfolderModel") (T := T_Mo) (N := 28) hx hb ht in_Mo hown hK hP 0 rfl rfl 2 (by decide) (ht _ wd_4_2) (fun _ h9 => h9) rfl d_Mo_stuck_25 ?_
          refine lv_iload_n hx hb d_Mo_stuck_28 rfl (lv_at hl 3 rfl) ?_
          refine na_iald (k := i) hx hb hK hP 1 0 rfl rfl (by omega) (by decide) d_Mo_stuck_29 ?_
          refine lv_icmp_eq (tgt := 37) hx hb d_Mo_stuck_30 (by decide) (fun hb4 => ?_) (fun hb4 => ?_)
          · skip
            refine lv_iconst (v := 0) hx hb d_Mo_stuck_37 (by decide) ?_
            refine lv_istore_n (lv' := [(2, .int 0), (0, .ref m0), (1, .int x), (3, .int (nI i))]) hx hb d_Mo_stuck_38 rfl hl (by decide) rfl (fun ls hln => ?_)
            replace hl : lv_has ls 4 [(2, .int 0), (0, .ref m0), (1, .int x), (3, .int (nI i))] := hln
            clear hln
            refine lv_iinc (k := 3) (v := nI (i + 1)) (lv' := [(3, .int (nI (i + 1))), (2, .int 0), (0, .ref m0), (1, .int x)]) hx hb d_Mo_stuck_39 hl rfl (nI_1 _) (by decide) rfl (fun ls hln => ?_)
            replace hl : lv_has ls 4 [(3, .int (nI (i + 1))), (2, .int 0), (0, .ref m0), (1, .int x)] := hln
            clear hln
            refine lv_goto (tgt := 4) hx hb d_Mo_stuck_42 (by decide) ?_
            exact hloop1_ih 0 (i + 1) (by first | assumption | omega | trivial | exact AllLt.zero | exact AllN.zero | exact AllM.zero | exact Or.inl rfl | exact Or.inr rfl) (by first | assumption | omega | trivial | exact AllLt.zero | exact AllN.zero | exact AllM.zero | exact Or.inl rfl | exact Or.inr rfl) _ _ ls (lv_sub hl [2, 3, 1, 0] rfl) (hP.sub [0, 1] rfl) (hD.sub [0, 1] (by decide) rfl) hS (by omega)
          · skip
            refine lv_iconst (v := 1) hx hb d_Mo_stuck_33 (by decide) ?_
            refine lv_goto (tgt := 38) hx hb d_Mo_stuck_34 (by decide) ?_
            refine lv_istore_n (lv' := [(2, .int 1), (0, .ref m0), (1, .int x), (3, .int (nI i))]) hx hb d_Mo_stuck_38 rfl hl (by decide) rfl (fun ls hln => ?_)
            replace hl : lv_has ls 4 [(2, .int 1), (0, .ref m0), (1, .int x), (3, .int (nI i))] := hln
            clear hln
            refine lv_iinc (k := 3) (v := nI (i + 1)) (lv' := [(3, .int (nI (i + 1))), (2, .int 1), (0, .ref m0), (1, .int x)]) hx hb d_Mo_stuck_39 hl rfl (nI_1 _) (by decide) rfl (fun ls hln => ?_)
            replace hl : lv_has ls 4 [(3, .int (nI (i + 1))), (2, .int 1), (0, .ref m0), (1, .int x)] := hln
            clear hln
            refine lv_goto (tgt := 4) hx hb d_Mo_stuck_42 (by decide) ?_
            exact hloop1_ih 1 (i + 1) (by first | assumption | omega | trivial | exact AllLt.zero | exact AllN.zero | exact AllM.zero | exact Or.inl rfl | exact Or.inr rfl) (by first | assumption | omega | trivial | exact AllLt.zero | exact AllN.zero | exact AllM.zero | exact Or.inl rfl | exact Or.inr rfl) _ _ ls (lv_sub hl [2, 3, 1, 0] rfl) (hP.sub [0, 1] rfl) (hD.sub [0, 1] (by decide) rfl) hS (by omega)
  exact hloop1 ((mt - 0) + 1) 1 0 (by first | assumption | omega | trivial | exact AllLt.zero | exact AllN.zero | exact AllM.zero | exact Or.inl rfl | exact Or.inr rfl) (by first | assumption | omega | trivial | exact AllLt.zero | exact AllN.zero | exact AllM.zero | exact Or.inl rfl | exact Or.inr rfl) _ _ ls (lv_sub hl [2, 3, 1, 0] rfl) hP hD hS (Nat.lt_succ_self _)

set_option maxHeartbeats 4000000 in
set_option maxRecDepth 100000 in
theorem c_Mo_fits (l : Launch) (dC : Nat → ClassId) (dI : Nat → Nat → Nat) (cI cL cZ : ClassId) (sz : Nat) (m0 : Nat) (m1 : Nat) (m2 : Nat) (m3 : Nat) (m4 : Nat) (m5 : Nat) (m6 : Nat) (m7 : Nat) (m8 : Nat) (m9 : Nat) (m10 : Nat) (m11 : Nat) (m12 : Nat) (m13 : Nat) (m14 : Nat) (m15 : Nat) (m16 : Nat) (m17 : Nat) (mth : Int32) (mt : Nat) (mf : Int32) (mcd : Nat) (mev : Nat) (mwh : Int32) (mps : Int32) (mlr : Int64) (mlt : Nat) (mlm : Nat) (mln : Int32) (gca : Nat → Int32) (gtn : Nat → Int64) (gcu : Nat → Int32) (x : Int64) (k : Nat) (hev : mev ≤ 30) (hk : k < 30) : Met l y_Mo_fits (Cond.code y_Mo_fits prog_11_method_31_code 6 (some .boolean) :: wsA) { frames := 2, cells := 0, slots := 0, locals := 47 } (va_Pc [.ref m0, .long x, .int (nI k)] (fun U => U.heap.size = sz ∧ va_P (dC, dI) clA [(m0, .inr (9, [.int mth, .int (nI mt), .ref m1, .ref m2, .int mf, .int (nI mcd), .ref m3, .ref m4, .ref m5, .ref m6, .int (nI mev), .ref m7, .ref m8, .ref m9, .ref m10, .ref m11, .ref m12, .ref m13, .int mwh, .int mps, .ref m14, .ref m15, .long mlr, .int (nI mlt), .int (nI mlm), .ref m16, .int mln, .ref m17])), (m8, .inl (cI, 30, .inl gca)), (m9, .inl (cL, 30, .inr (.inl gtn))), (m13, .inl (cZ, 30, .inl gcu))] U.heap ∧ va_K (dC, dI) clA [(cI, .int), (cL, .long), (cZ, .boolean)] U ∧ va_D (fun _ => True) [(m0, .inr (9, [.int mth, .int (nI mt), .ref m1, .ref m2, .int mf, .int (nI mcd), .ref m3, .ref m4, .ref m5, .ref m6, .int (nI mev), .ref m7, .ref m8, .ref m9, .ref m10, .ref m11, .ref m12, .ref m13, .int mwh, .int mps, .ref m14, .ref m15, .long mlr, .int (nI mlt), .int (nI mlm), .ref m16, .int mln, .ref m17])), (m8, .inl (cI, 30, .inl gca)), (m9, .inl (cL, 30, .inr (.inl gtn))), (m13, .inl (cZ, 30, .inl gcu))] ∧ NwA U)) (va_Qi (fun r (_ : Unit) => (r = 0 ∨ r = 1)) (fun _ t => va_P (dC, dI) clA [(m0, .inr (9, [.int mth, .int (nI mt), .ref m1, .ref m2, .int mf, .int (nI mcd), .ref m3, .ref m4, .ref m5, .ref m6, .int (nI mev), .ref m7, .ref m8, .ref m9, .ref m10, .ref m11, .ref m12, .ref m13, .int mwh, .int mps, .ref m14, .ref m15, .long mlr, .int (nI mlt), .int (nI mlm), .ref m16, .int mln, .ref m17])), (m8, .inl (cI, 30, .inl gca)), (m9, .inl (cL, 30, .inr (.inl gtn))), (m13, .inl (cZ, 30, .inl gcu))] t.heap ∧ va_D (va_A [(m0, .inr (9, [.int mth, .int (nI mt), .ref m1, .ref m2, .int mf, .int (nI mcd), .ref m3, .ref m4, .ref m5, .ref m6, .int (nI mev), .ref m7, .ref m8, .ref m9, .ref m10, .ref m11, .ref m12, .ref m13, .int mwh, .int mps, .ref m14, .ref m15, .long mlr, .int (nI mlt), .int (nI mlm), .ref m16, .int mln, .ref m17])), (m8, .inl (cI, 30, .inl gca)), (m9, .inl (cL, 30, .inr (.inl gtn))), (m13, .inl (cZ, 30, .inl gcu))] sz) [(m0, .inr (9, [.int mth, .int (nI mt), .ref m1, .ref m2, .int mf, .int (nI mcd), .ref m3, .ref m4, .ref m5, .ref m6, .int (nI mev), .ref m7, .ref m8, .ref m9, .ref m10, .ref m11, .ref m12, .ref m13, .int mwh, .int mps, .ref m14, .ref m15, .long mlr, .int (nI mlt), .int (nI mlm), .ref m16, .int mln, .ref m17])), (m8, .inl (cI, 30, .inl gca)), (m9, .inl (cL, 30, .inr (.inl gtn))), (m13, .inl (cZ, 30, .inl gcu))]) (va_A [(m0, .inr (9, [.int mth, .int (nI mt), .ref m1, .ref m2, .int mf, .int (nI mcd), .ref m3, .ref m4, .ref m5, .ref m6, .int (nI mev), .ref m7, .ref m8, .ref m9, .ref m10, .ref m11, .ref m12, .ref m13, .int mwh, .int mps, .ref m14, .ref m15, .long mlr, .int (nI mlt), .int (nI mlm), .ref m16, .int mln, .ref m17])), (m8, .inl (cI, 30, .inl gca)), (m9, .inl (cL, 30, .inr (.inl gtn))), (m13, .inl (cZ, 30, .inl gcu))] sz)) 0 0 (va_A [(m0, .inr (9, [.int mth, .int (nI mt), .ref m1, .ref m2, .int mf, .int (nI mcd), .ref m3, .ref m4, .ref m5, .ref m6, .int (nI mev), .ref m7, .ref m8, .ref m9, .ref m10, .ref m11, .ref m12, .ref m13, .int mwh, .int mps, .ref m14, .ref m15, .long mlr, .int (nI mlt), .int (nI mlm), .ref m16, .int mln, .ref m17])), (m8, .inl (cI, 30, .inl gca)), (m9, .inl (cL, 30, .inr (.inl gtn))), (m13, .inl (cZ, 30, .inl gcu))] sz) := by
  refine Met.ofW (cc := prog_11_method_31_code) (maxL := 6) (ret := (some .boolean)) (by decide) rfl ?_
  intro p e s m args below meth c s₁ B hml hv
  obtain ⟨rfl, hsz, hP, hK, hD0, hN⟩ := hv
  have hx := B.exec
  have hb := B.bytes
  have hr := B.returns
  have ht : ∀ w ∈ wsA, w.before _ s = true := fun w h => atoms_spec (ws := (Cond.code y_Mo_fits prog_11_method_31_code 6 (some .boolean) :: wsA)) B.pre w (List.mem_cons_of_mem _ h)
  have hown : s.vm.findClass "NetUnfolderModel" = some m.cls := findClass_of_methodNamed B.named
  have hlocks := B.notSynchronized
  subst hsz
  have hD := hD0.self (sz := s.heap.size)
  generalize hAe : va_A [(m0, .inr (9, [.int mth, .int (nI mt), .ref m1, .ref m2, .int mf, .int (nI mcd), .ref m3, .ref m4, .ref m5, .ref m6, .int (nI mev), .ref m7, .ref m8, .ref m9, .ref m10, .ref m11, .ref m12, .ref m13, .int mwh, .int mps, .ref m14, .ref m15, .long mlr, .int (nI mlt), .int (nI mlm), .ref m16, .int mln, .ref m17])), (m8, .inl (cI, 30, .inl gca)), (m9, .inl (cL, 30, .inr (.inl gtn))), (m13, .inl (cZ, 30, .inl gcu))] s.heap.size = A at hD ⊢
  have hA : ∀ q : Nat, s.heap.size ≤ q → A q := fun q h => by rw [← hAe]; exact Or.inr h
  have hS : va_S A s.heap s.heap [] := va_S.rf
  have hl := lv_entry ([.ref m0, .long x, .int (nI k)]) (n := 6) (Nat.le_of_ble_eq_true rfl)
  rw [lg_entry_eq]
  generalize (lg_sl ([.ref m0, .long x, .int (nI k)]) ++ List.replicate (6 - (lg_sl ([.ref m0, .long x, .int (nI k)])).length) Slot.unset).toArray = ls at hl ⊢
  replace hl : lv_has ls 6 [(0, .ref m0), (1, .long x), (3, .int (nI k))] := hl
  refine W_Q (fun Q hQ => ?_)
  refine lv_aload_n hx hb d_Mo_fits_0 rfl (lv_at hl 0 rfl) ?_
  refine va_get (D := (dC, dI)) (ci := 9) (v := .ref m8) (C := "NetUnfolderModel") (T := T_Mo) (N := 28) hx hb ht in_Mo hown hK hP 0 rfl rfl 12 (by decide) (ht _ wd_4_12) (fun _ h9 => h9) rfl d_Mo_fits_1 ?_
  refine lv_iload_n hx hb d_Mo_fits_4 rfl (lv_at hl 2 rfl) ?_
  refine na_iald (k := k) hx hb hK hP 1 0 rfl rfl (by omega) (by decide) d_Mo_fits_5 ?_
  refine lv_iconst (v := 1) hx hb d_Mo_fits_6 (by decide) ?_
  refine lv_iload_n hx hb d_Mo_fits_7 rfl (lv_at hl 2 rfl) ?_
  refine lv_ishl hx hb d_Mo_fits_8 ?_
  refine lv_ixor hx hb d_Mo_fits_9 ?_
  refine lv_i2l (v := Int32.toInt64 ((gca k) ^^^ (1 <<< ((nI k) &&& 31)))) hx hb d_Mo_fits_10 rfl ?_
  refine lv_lstore (lv' := [(4, .long (Int32.toInt64 ((gca k) ^^^ (1 <<< ((nI k) &&& 31))))), (0, .ref m0), (1, .long x), (3, .int (nI k))]) hx hb d_Mo_fits_11 hl (by decide) rfl (fun ls hln => ?_)
  replace hl : lv_has ls 6 [(4, .long (Int32.toInt64 ((gca k) ^^^ (1 <<< ((nI k) &&& 31))))), (0, .ref m0), (1, .long x), (3, .int (nI k))] := hln
  clear hln
  refine lv_aload_n hx hb d_Mo_fits_13 rfl (lv_at hl 1 rfl) ?_
  refine va_get (D := (dC, dI)) (ci := 9) (v := .ref m13) (C := "NetUnfolderModel") (T := T_Mo) (N := 28) hx hb ht in_Mo hown hK hP 0 rfl rfl 17 (by decide) (ht _ wd_4_17) (fun _ h9 => h9) rfl d_Mo_fits_14 ?_
  refine lv_iload_n hx hb d_Mo_fits_17 rfl (lv_at hl 3 rfl) ?_
  refine na_zald (k := k) hx hb hK hP 3 2 rfl rfl (by omega) (by decide) d_Mo_fits_18 ?_
  refine lv_if_ne (tgt := 56) hx hb d_Mo_fits_19 (by decide) (fun hb1 => ?_) (fun hb1 => ?_)
  · skip
    refine lv_iconst (v := 0) hx hb d_Mo_fits_56 (by decide) ?_
    have hP9 := hP.sub (ws' := [(m0, .inr (9, [.int mth, .int (nI mt), .ref m1, .ref m2, .int mf, .int (nI mcd), .ref m3, .ref m4, .ref m5, .ref m6, .int (nI mev), .ref m7, .ref m8, .ref m9, .ref m10, .ref m11, .ref m12, .ref m13, .int mwh, .int mps, .ref m14, .ref m15, .long mlr, .int (nI mlt), .int (nI mlm), .ref m16, .int mln, .ref m17])), (m8, .inl (cI, 30, .inl gca)), (m9, .inl (cL, 30, .inr (.inl gtn))), (m13, .inl (cZ, 30, .inl gcu))]) [0, 1, 2, 3] rfl
    have hD9 := hD.sub (ws' := [(m0, .inr (9, [.int mth, .int (nI mt), .ref m1, .ref m2, .int mf, .int (nI mcd), .ref m3, .ref m4, .ref m5, .ref m6, .int (nI mev), .ref m7, .ref m8, .ref m9, .ref m10, .ref m11, .ref m12, .ref m13, .int mwh, .int mps, .ref m14, .ref m15, .long mlr, .int (nI mlt), .int (nI mlm), .ref m16, .int mln, .ref m17])), (m8, .inl (cI, 30, .inl gca)), (m9, .inl (cL, 30, .inr (.inl gtn))), (m13, .inl (cZ, 30, .inl gcu))]) [0, 1, 2, 3] (by decide) rfl
    subst hQ
    exact W.zret (v := 0) hx hb hr rfl (fun t9 ht9 hW => ⟨⟨0, (), rfl, (by first | assumption | omega | trivial | exact AllLt.zero | exact AllN.zero | exact AllM.zero | exact Or.inl rfl | exact Or.inr rfl), by rw [ht9]; exact hP9, hD9⟩, hS.F ht9⟩) hS.2.2 d_Mo_fits_57
  · skip
    refine lv_lload hx hb d_Mo_fits_22 (lv_at hl 0 rfl) ?_
    refine lv_lload_n hx hb d_Mo_fits_24 rfl (lv_at hl 2 rfl) ?_
    refine lv_ldc2 hx hb hown (ht _ wd_4_124) d_Mo_fits_25 ?_
    refine lv_lxor hx hb d_Mo_fits_28 ?_
    refine lv_land hx hb d_Mo_fits_29 ?_
    refine lv_lconst (v := 0) hx hb d_Mo_fits_30 (by decide) ?_
    refine W.lcmp hx hb d_Mo_fits_31 ?_
    refine lv_if_ne (tgt := 56) hx hb d_Mo_fits_32 (by decide) (fun hb2 => ?_) (fun hb2 => ?_)
    · skip
      refine lv_iconst (v := 0) hx hb d_Mo_fits_56 (by decide) ?_
      have hP9 := hP.sub (ws' := [(m0, .inr (9, [.int mth, .int (nI mt), .ref m1, .ref m2, .int mf, .int (nI mcd), .ref m3, .ref m4, .ref m5, .ref m6, .int (nI mev), .ref m7, .ref m8, .ref m9, .ref m10, .ref m11, .ref m12, .ref m13, .int mwh, .int mps, .ref m14, .ref m15, .long mlr, .int (nI mlt), .int (nI mlm), .ref m16, .int mln, .ref m17])), (m8, .inl (cI, 30, .inl gca)), (m9, .inl (cL, 30, .inr (.inl gtn))), (m13, .inl (cZ, 30, .inl gcu))]) [0, 1, 2, 3] rfl
      have hD9 := hD.sub (ws' := [(m0, .inr (9, [.int mth, .int (nI mt), .ref m1, .ref m2, .int mf, .int (nI mcd), .ref m3, .ref m4, .ref m5, .ref m6, .int (nI mev), .ref m7, .ref m8, .ref m9, .ref m10, .ref m11, .ref m12, .ref m13, .int mwh, .int mps, .ref m14, .ref m15, .long mlr, .int (nI mlt), .int (nI mlm), .ref m16, .int mln, .ref m17])), (m8, .inl (cI, 30, .inl gca)), (m9, .inl (cL, 30, .inr (.inl gtn))), (m13, .inl (cZ, 30, .inl gcu))]) [0, 1, 2, 3] (by decide) rfl
      subst hQ
      exact W.zret (v := 0) hx hb hr rfl (fun t9 ht9 hW => ⟨⟨0, (), rfl, (by first | assumption | omega | trivial | exact AllLt.zero | exact AllN.zero | exact AllM.zero | exact Or.inl rfl | exact Or.inr rfl), by rw [ht9]; exact hP9, hD9⟩, hS.F ht9⟩) hS.2.2 d_Mo_fits_57
    · skip
      refine lv_aload_n hx hb d_Mo_fits_35 rfl (lv_at hl 1 rfl) ?_
      refine lv_lload_n hx hb d_Mo_fits_36 rfl (lv_at hl 2 rfl) ?_
      have hPc := hP.sub (ws' := [(m0, .inr (9, [.int mth, .int (nI mt), .ref m1, .ref m2, .int mf, .int (nI mcd), .ref m3, .ref m4, .ref m5, .ref m6, .int (nI mev), .ref m7, .ref m8, .ref m9, .ref m10, .ref m11, .ref m12, .ref m13, .int mwh, .int mps, .ref m14, .ref m15, .long mlr, .int (nI mlt), .int (nI mlm), .ref m16, .int mln, .ref m17])), (m9, .inl (cL, 30, .inr (.inl gtn)))]) [0, 2] rfl
      have hDc := hD.sub (ws' := [(m0, .inr (9, [.int mth, .int (nI mt), .ref m1, .ref m2, .int mf, .int (nI mcd), .ref m3, .ref m4, .ref m5, .ref m6, .int (nI mev), .ref m7, .ref m8, .ref m9, .ref m10, .ref m11, .ref m12, .ref m13, .int mwh, .int mps, .ref m14, .ref m15, .long mlr, .int (nI mlt), .int (nI mlm), .ref m16, .int mln, .ref m17])), (m9, .inl (cL, 30, .inr (.inl gtn)))]) [0, 2] (by decide) rfl
      have hFc := va_free (wc := [(m0, .inr (9, [.int mth, .int (nI mt), .ref m1, .ref m2, .int mf, .int (nI mcd), .ref m3, .ref m4, .ref m5, .ref m6, .int (nI mev), .ref m7, .ref m8, .ref m9, .ref m10, .ref m11, .ref m12, .ref m13, .int mwh, .int mps, .ref m14, .ref m15, .long mlr, .int (nI mlt), .int (nI mlm), .ref m16, .int mln, .ref m17])), (m9, .inl (cL, 30, .inr (.inl gtn)))]) hD hS hA [0, 2] rfl
      refine va_calll (va_runV (C := "NetUnfolderModel") (As := [.long x]) (rest := []) ⟨hx, hb, hml, hown, ht⟩ (c_Mo_takenBy l dC dI cI cL cZ _ m0 m1 m2 m3 m4 m5 m6 m7 m8 m9 m10 m11 m12 m13 m14 m15 m16 m17 mth mt mf mcd mev mwh mps mlr mlt mlm mln gtn x (by first | assumption | omega | trivial | exact AllLt.zero | exact AllN.zero | exact AllM.zero | exact Or.inl rfl | exact Or.inr rfl)) (cwV 1 ht (good_V wd_4_117 wd_4_119 ws_Mo_takenBy wd_1_10 wd_4_120) rfl rfl rfl (by decide +kernel) ⟨Nat.le_of_ble_eq_true rfl, Nat.le_of_ble_eq_true rfl⟩) ⟨fun a U g mk q => by obtain ⟨q0, q1, qP, qK, qD, qN⟩ := q; exact ⟨q0, q1, qP, va_K.moved (u := U) (U := U.calling g mk a) (Vm.Alike.refl U.vm) qK, qD, NwA.same (u := U) rfl qN⟩, (va_recv (q0 := 0) (ci := 9) hK hP rfl rfl), fun U hU hW => ⟨rfl, by rw [hU], by rw [hU]; exact hPc, va_K.moved hW.alike hK, hDc.weaken (fun _ _ _ _ => trivial), NwA.warm hW hN⟩⟩ rfl rfl hl.1 rfl (lv_room (Nat.le_of_ble_eq_true rfl)) d_Mo_fits_37 ⟨Nat.le_of_ble_eq_true rfl, Nat.le_of_ble_eq_true rfl⟩) hS (fun q _ h => hFc q h) hFc (fun r5 u9 t9 H3 locs ht9 hvm hw4 hB hz1 hk1 hSn => ?_)
      obtain ⟨hP1, hD1⟩ := hB
      rw [ht9] at hP1
      obtain ⟨hPn, hDn⟩ := va_join (wr := [(m8, .inl (cI, 30, .inl gca)), (m13, .inl (cZ, 30, .inl gcu))]) (w1 := [(m0, .inr (9, [.int mth, .int (nI mt), .ref m1, .ref m2, .int mf, .int (nI mcd), .ref m3, .ref m4, .ref m5, .ref m6, .int (nI mev), .ref m7, .ref m8, .ref m9, .ref m10, .ref m11, .ref m12, .ref m13, .int mwh, .int mps, .ref m14, .ref m15, .long mlr, .int (nI mlt), .int (nI mlm), .ref m16, .int mln, .ref m17])), (m9, .inl (cL, 30, .inr (.inl gtn)))]) hP hD [0, 2] [1, 3] rfl rfl (by decide) (by decide) hk1 hFc hP1 hD1
      replace hP : va_P (dC, dI) clA [(m8, .inl (cI, 30, .inl gca)), (m13, .inl (cZ, 30, .inl gcu)), (m0, .inr (9, [.int mth, .int (nI mt), .ref m1, .ref m2, .int mf, .int (nI mcd), .ref m3, .ref m4, .ref m5, .ref m6, .int (nI mev), .ref m7, .ref m8, .ref m9, .ref m10, .ref m11, .ref m12, .ref m13, .int mwh, .int mps, .ref m14, .ref m15, .long mlr, .int (nI mlt), .int (nI mlm), .ref m16, .int mln, .ref m17])), (m9, .inl (cL, 30, .inr (.inl gtn)))] H3 := hPn
      replace hD : va_D A [(m8, .inl (cI, 30, .inl gca)), (m13, .inl (cZ, 30, .inl gcu)), (m0, .inr (9, [.int mth, .int (nI mt), .ref m1, .ref m2, .int mf, .int (nI mcd), .ref m3, .ref m4, .ref m5, .ref m6, .int (nI mev), .ref m7, .ref m8, .ref m9, .ref m10, .ref m11, .ref m12, .ref m13, .int mwh, .int mps, .ref m14, .ref m15, .long mlr, .int (nI mlt), .int (nI mlm), .ref m16, .int mln, .ref m17])), (m9, .inl (cL, 30, .inr (.inl gtn)))] := hDn
      replace hS := hSn
      clear hPn hDn hSn
      clear hPc hDc hFc hP1 hD1 hk1 hz1 ht9 hvm
      refine W.cs (cells' := 0) (slots' := 0) rfl rfl ?_
      refine lv_aload_n hx hb d_Mo_fits_40 rfl (lv_at hl 1 rfl) ?_
      refine va_get (D := (dC, dI)) (ci := 9) (v := .ref m9) (C := "NetUnfolderModel") (T := T_Mo) (N := 28) hx hb ht in_Mo hown hK hP 2 rfl rfl 13 (by decide) (ht _ wd_4_13) (fun _ h9 => h9) rfl d_Mo_fits_41 ?_
      refine lv_iload_n hx hb d_Mo_fits_44 rfl (lv_at hl 3 rfl) ?_
      refine na_lald (k := k) hx hb hK hP 3 1 rfl rfl (by omega) (by decide) d_Mo_fits_45 ?_
      refine lv_land hx hb d_Mo_fits_46 ?_
      refine lv_lconst (v := 0) hx hb d_Mo_fits_47 (by decide) ?_
      refine W.lcmp hx hb d_Mo_fits_48 ?_
      refine lv_if_ne (tgt := 56) hx hb d_Mo_fits_49 (by decide) (fun hb6 => ?_) (fun hb6 => ?_)
      · skip
        refine lv_iconst (v := 0) hx hb d_Mo_fits_56 (by decide) ?_
        have hP9 := hP.sub (ws' := [(m0, .inr (9, [.int mth, .int (nI mt), .ref m1, .ref m2, .int mf, .int (nI mcd), .ref m3, .ref m4, .ref m5, .ref m6, .int (nI mev), .ref m7, .ref m8, .ref m9, .ref m10, .ref m11, .ref m12, .ref m13, .int mwh, .int mps, .ref m14, .ref m15, .long mlr, .int (nI mlt), .int (nI mlm), .ref m16, .int mln, .ref m17])), (m8, .inl (cI, 30, .inl gca)), (m9, .inl (cL, 30, .inr (.inl gtn))), (m13, .inl (cZ, 30, .inl gcu))]) [2, 0, 3, 1] rfl
        have hD9 := hD.sub (ws' := [(m0, .inr (9, [.int mth, .int (nI mt), .ref m1, .ref m2, .int mf, .int (nI mcd), .ref m3, .ref m4, .ref m5, .ref m6, .int (nI mev), .ref m7, .ref m8, .ref m9, .ref m10, .ref m11, .ref m12, .ref m13, .int mwh, .int mps, .ref m14, .ref m15, .long mlr, .int (nI mlt), .int (nI mlm), .ref m16, .int mln, .ref m17])), (m8, .inl (cI, 30, .inl gca)), (m9, .inl (cL, 30, .inr (.inl gtn))), (m13, .inl (cZ, 30, .inl gcu))]) [2, 0, 3, 1] (by decide) rfl
        subst hQ
        exact W.zret (v := 0) hx hb hr rfl (fun t9 ht9 hW => ⟨⟨0, (), rfl, (by first | assumption | omega | trivial | exact AllLt.zero | exact AllN.zero | exact AllM.zero | exact Or.inl rfl | exact Or.inr rfl), by rw [ht9]; exact hP9, hD9⟩, hS.F ht9⟩) hS.2.2 d_Mo_fits_57
      · skip
        refine lv_iconst (v := 1) hx hb d_Mo_fits_52 (by decide) ?_
        refine lv_goto (tgt := 57) hx hb d_Mo_fits_53 (by decide) ?_
        have hP9 := hP.sub (ws' := [(m0, .inr (9, [.int mth, .int (nI mt), .ref m1, .ref m2, .int mf, .int (nI mcd), .ref m3, .ref m4, .ref m5, .ref m6, .int (nI mev), .ref m7, .ref m8, .ref m9, .ref m10, .ref m11, .ref m12, .ref m13, .int mwh, .int mps, .ref m14, .ref m15, .long mlr, .int (nI mlt), .int (nI mlm), .ref m16, .int mln, .ref m17])), (m8, .inl (cI, 30, .inl gca)), (m9, .inl (cL, 30, .inr (.inl gtn))), (m13, .inl (cZ, 30, .inl gcu))]) [2, 0, 3, 1] rfl
        have hD9 := hD.sub (ws' := [(m0, .inr (9, [.int mth, .int (nI mt), .ref m1, .ref m2, .int mf, .int (nI mcd), .ref m3, .ref m4, .ref m5, .ref m6, .int (nI mev), .ref m7, .ref m8, .ref m9, .ref m10, .ref m11, .ref m12, .ref m13, .int mwh, .int mps, .ref m14, .ref m15, .long mlr, .int (nI mlt), .int (nI mlm), .ref m16, .int mln, .ref m17])), (m8, .inl (cI, 30, .inl gca)), (m9, .inl (cL, 30, .inr (.inl gtn))), (m13, .inl (cZ, 30, .inl gcu))]) [2, 0, 3, 1] (by decide) rfl
        subst hQ
        exact W.zret (v := 1) hx hb hr rfl (fun t9 ht9 hW => ⟨⟨1, (), rfl, (by first | assumption | omega | trivial | exact AllLt.zero | exact AllN.zero | exact AllM.zero | exact Or.inl rfl | exact Or.inr rfl), by rw [ht9]; exact hP9, hD9⟩, hS.F ht9⟩) hS.2.2 d_Mo_fits_57

set_option maxHeartbeats 4000000 in
set_option maxRecDepth 100000 in
theorem c_Mo_answer (l : Launch) (dC : Nat → ClassId) (dI : Nat → Nat → Nat) (cI cL cZ : ClassId) (sz : Nat) (m0 : Nat) (m1 : Nat) (m2 : Nat) (m3 : Nat) (m4 : Nat) (m5 : Nat) (m6 : Nat) (m7 : Nat) (m8 : Nat) (m9 : Nat) (m10 : Nat) (m11 : Nat) (m12 : Nat) (m13 : Nat) (m14 : Nat) (m15 : Nat) (m16 : Nat) (m17 : Nat) (mth : Int32) (mt : Nat) (mf : Int32) (mcd : Nat) (mev : Nat) (mwh : Int32) (mps : Int32) (mlr : Int64) (mlt : Nat) (mlm : Nat) (mln : Int32) (mp : Nat → Int32) (mq : Nat → Int32) (gtr : Nat → Int32) (gca : Nat → Int32) (gtn : Nat → Int64) (gcu : Nat → Int32) (gwy : Nat → Int32) (x : Int32) (hmt : mt ≤ 8) (hev : mev ≤ 30) (hgtr : AllLt gtr mev 8) (hgwy : AllLt gwy 62 8) : Met l y_Mo_answer (Cond.code y_Mo_answer prog_11_method_32_code 11 (some .int) :: wsA) { frames := 3, cells := 0, slots := 0, locals := 72 } (va_Pc [.ref m0, .int x] (fun U => U.heap.size = sz ∧ va_P (dC, dI) clA [(m0, .inr (9, [.int mth, .int (nI mt), .ref m1, .ref m2, .int mf, .int (nI mcd), .ref m3, .ref m4, .ref m5, .ref m6, .int (nI mev), .ref m7, .ref m8, .ref m9, .ref m10, .ref m11, .ref m12, .ref m13, .int mwh, .int mps, .ref m14, .ref m15, .long mlr, .int (nI mlt), .int (nI mlm), .ref m16, .int mln, .ref m17])), (m1, .inl (cI, 8, .inl mp)), (m2, .inl (cI, 8, .inl mq)), (m7, .inl (cI, 30, .inl gtr)), (m8, .inl (cI, 30, .inl gca)), (m9, .inl (cL, 30, .inr (.inl gtn))), (m13, .inl (cZ, 30, .inl gcu)), (m17, .inl (cI, 62, .inl gwy))] U.heap ∧ va_K (dC, dI) clA [(cI, .int), (cL, .long), (cZ, .boolean)] U ∧ va_D (fun _ => True) [(m0, .inr (9, [.int mth, .int (nI mt), .ref m1, .ref m2, .int mf, .int (nI mcd), .ref m3, .ref m4, .ref m5, .ref m6, .int (nI mev), .ref m7, .ref m8, .ref m9, .ref m10, .ref m11, .ref m12, .ref m13, .int mwh, .int mps, .ref m14, .ref m15, .long mlr, .int (nI mlt), .int (nI mlm), .ref m16, .int mln, .ref m17])), (m1, .inl (cI, 8, .inl mp)), (m2, .inl (cI, 8, .inl mq)), (m7, .inl (cI, 30, .inl gtr)), (m8, .inl (cI, 30, .inl gca)), (m9, .inl (cL, 30, .inr (.inl gtn))), (m13, .inl (cZ, 30, .inl gcu)), (m17, .inl (cI, 62, .inl gwy))] ∧ NwA U)) (va_Qi (fun r (_ : Unit) => True) (fun _ t => ∃ (mln1 : Int32), ∃ (gwy1 : Nat → Int32), (MlI mln1) ∧ (AllLt gwy1 62 8) ∧ va_P (dC, dI) clA [(m0, .inr (9, [.int mth, .int (nI mt), .ref m1, .ref m2, .int mf, .int (nI mcd), .ref m3, .ref m4, .ref m5, .ref m6, .int (nI mev), .ref m7, .ref m8, .ref m9, .ref m10, .ref m11, .ref m12, .ref m13, .int mwh, .int mps, .ref m14, .ref m15, .long mlr, .int (nI mlt), .int (nI mlm), .ref m16, .int mln1, .ref m17])), (m1, .inl (cI, 8, .inl mp)), (m2, .inl (cI, 8, .inl mq)), (m7, .inl (cI, 30, .inl gtr)), (m8, .inl (cI, 30, .inl gca)), (m9, .inl (cL, 30, .inr (.inl gtn))), (m13, .inl (cZ, 30, .inl gcu)), (m17, .inl (cI, 62, .inl gwy1))] t.heap ∧ va_D (va_A [(m0, .inr (9, [.int mth, .int (nI mt), .ref m1, .ref m2, .int mf, .int (nI mcd), .ref m3, .ref m4, .ref m5, .ref m6, .int (nI mev), .ref m7, .ref m8, .ref m9, .ref m10, .ref m11, .ref m12, .ref m13, .int mwh, .int mps, .ref m14, .ref m15, .long mlr, .int (nI mlt), .int (nI mlm), .ref m16, .int mln, .ref m17])), (m1, .inl (cI, 8, .inl mp)), (m2, .inl (cI, 8, .inl mq)), (m7, .inl (cI, 30, .inl gtr)), (m8, .inl (cI, 30, .inl gca)), (m9, .inl (cL, 30, .inr (.inl gtn))), (m13, .inl (cZ, 30, .inl gcu)), (m17, .inl (cI, 62, .inl gwy))] sz) [(m0, .inr (9, [.int mth, .int (nI mt), .ref m1, .ref m2, .int mf, .int (nI mcd), .ref m3, .ref m4, .ref m5, .ref m6, .int (nI mev), .ref m7, .ref m8, .ref m9, .ref m10, .ref m11, .ref m12, .ref m13, .int mwh, .int mps, .ref m14, .ref m15, .long mlr, .int (nI mlt), .int (nI mlm), .ref m16, .int mln1, .ref m17])), (m1, .inl (cI, 8, .inl mp)), (m2, .inl (cI, 8, .inl mq)), (m7, .inl (cI, 30, .inl gtr)), (m8, .inl (cI, 30, .inl gca)), (m9, .inl (cL, 30, .inr (.inl gtn))), (m13, .inl (cZ, 30, .inl gcu)), (m17, .inl (cI, 62, .inl gwy1))]) (va_A [(m0, .inr (9, [.int mth, .int (nI mt), .ref m1, .ref m2, .int mf, .int (nI mcd), .ref m3, .ref m4, .ref m5, .ref m6, .int (nI mev), .ref m7, .ref m8, .ref m9, .ref m10, .ref m11, .ref m12, .ref m13, .int mwh, .int mps, .ref m14, .ref m15, .long mlr, .int (nI mlt), .int (nI mlm), .ref m16, .int mln, .ref m17])), (m1, .inl (cI, 8, .inl mp)), (m2, .inl (cI, 8, .inl mq)), (m7, .inl (cI, 30, .inl gtr)), (m8, .inl (cI, 30, .inl gca)), (m9, .inl (cL, 30, .inr (.inl gtn))), (m13, .inl (cZ, 30, .inl gcu)), (m17, .inl (cI, 62, .inl gwy))] sz)) 0 0 (va_A [(m0, .inr (9, [.int mth, .int (nI mt), .ref m1, .ref m2, .int mf, .int (nI mcd), .ref m3, .ref m4, .ref m5, .ref m6, .int (nI mev), .ref m7, .ref m8, .ref m9, .ref m10, .ref m11, .ref m12, .ref m13, .int mwh, .int mps, .ref m14, .ref m15, .long mlr, .int (nI mlt), .int (nI mlm), .ref m16, .int mln, .ref m17])), (m1, .inl (cI, 8, .inl mp)), (m2, .inl (cI, 8, .inl mq)), (m7, .inl (cI, 30, .inl gtr)), (m8, .inl (cI, 30, .inl gca)), (m9, .inl (cL, 30, .inr (.inl gtn))), (m13, .inl (cZ, 30, .inl gcu)), (m17, .inl (cI, 62, .inl gwy))] sz) := by
  refine Met.ofW (cc := prog_11_method_32_code) (maxL := 11) (ret := (some .int)) (by decide) rfl ?_
  intro p e s m args below meth c s₁ B hml hv
  obtain ⟨rfl, hsz, hP, hK, hD0, hN⟩ := hv
  have hx := B.exec
  have hb := B.bytes
  have hr := B.returns
  have ht : ∀ w ∈ wsA, w.before _ s = true := fun w h => atoms_spec (ws := (Cond.code y_Mo_answer prog_11_method_32_code 11 (some .int) :: wsA)) B.pre w (List.mem_cons_of_mem _ h)
  have hown : s.vm.findClass "NetUnfolderModel" = some m.cls := findClass_of_methodNamed B.named
  have hlocks := B.notSynchronized
  subst hsz
  have hD := hD0.self (sz := s.heap.size)
  generalize hAe : va_A [(m0, .inr (9, [.int mth, .int (nI mt), .ref m1, .ref m2, .int mf, .int (nI mcd), .ref m3, .ref m4, .ref m5, .ref m6, .int (nI mev), .ref m7, .ref m8, .ref m9, .ref m10, .ref m11, .ref m12, .ref m13, .int mwh, .int mps, .ref m14, .ref m15, .long mlr, .int (nI mlt), .int (nI mlm), .ref m16, .int mln, .ref m17])), (m1, .inl (cI, 8, .inl mp)), (m2, .inl (cI, 8, .inl mq)), (m7, .inl (cI, 30, .inl gtr)), (m8, .inl (cI, 30, .inl gca)), (m9, .inl (cL, 30, .inr (.inl gtn))), (m13, .inl (cZ, 30, .inl gcu)), (m17, .inl (cI, 62, .inl gwy))] s.heap.size = A at hD ⊢
  have hA : ∀ q : Nat, s.heap.size ≤ q → A q := fun q h => by rw [← hAe]; exact Or.inr h
  have hS : va_S A s.heap s.heap [] := va_S.rf
  have hl := lv_entry ([.ref m0, .int x]) (n := 11) (Nat.le_of_ble_eq_true rfl)
  rw [lg_entry_eq]
  generalize (lg_sl ([.ref m0, .int x]) ++ List.replicate (11 - (lg_sl ([.ref m0, .int x])).length) Slot.unset).toArray = ls at hl ⊢
  replace hl : lv_has ls 11 [(0, .ref m0), (1, .int x)] := hl
  refine W_Q (fun Q hQ => ?_)
  refine lv_aload_n hx hb d_Mo_answer_0 rfl (lv_at hl 0 rfl) ?_
  refine lv_iconst (v := (-1)) hx hb d_Mo_answer_1 (by decide) ?_
  refine va_put (D := (dC, dI)) (ci := 9) (v := .int (-1)) (ty := .int) (C := "NetUnfolderModel") (T := T_Mo) (N := 28) hx hb ht in_Mo ty_Mo ok_Mo nm_Mo hown hK hP hD hS 0 rfl rfl 26 (by decide) (ht _ wd_4_26) (fun _ h9 => h9) rfl (by decide +kernel) rfl rfl (Nat.le_of_ble_eq_true rfl) d_Mo_answer_2 (fun H1 locs hPn hDn hSn => ?_)
  replace hP : va_P (dC, dI) clA [(m0, .inr (9, [.int mth, .int (nI mt), .ref m1, .ref m2, .int mf, .int (nI mcd), .ref m3, .ref m4, .ref m5, .ref m6, .int (nI mev), .ref m7, .ref m8, .ref m9, .ref m10, .ref m11, .ref m12, .ref m13, .int mwh, .int mps, .ref m14, .ref m15, .long mlr, .int (nI mlt), .int (nI mlm), .ref m16, .int (-1), .ref m17])), (m1, .inl (cI, 8, .inl mp)), (m2, .inl (cI, 8, .inl mq)), (m7, .inl (cI, 30, .inl gtr)), (m8, .inl (cI, 30, .inl gca)), (m9, .inl (cL, 30, .inr (.inl gtn))), (m13, .inl (cZ, 30, .inl gcu)), (m17, .inl (cI, 62, .inl gwy))] H1 := hPn
  replace hD : va_D A [(m0, .inr (9, [.int mth, .int (nI mt), .ref m1, .ref m2, .int mf, .int (nI mcd), .ref m3, .ref m4, .ref m5, .ref m6, .int (nI mev), .ref m7, .ref m8, .ref m9, .ref m10, .ref m11, .ref m12, .ref m13, .int mwh, .int mps, .ref m14, .ref m15, .long mlr, .int (nI mlt), .int (nI mlm), .ref m16, .int (-1), .ref m17])), (m1, .inl (cI, 8, .inl mp)), (m2, .inl (cI, 8, .inl mq)), (m7, .inl (cI, 30, .inl gtr)), (m8, .inl (cI, 30, .inl gca)), (m9, .inl (cL, 30, .inr (.inl gtn))), (m13, .inl (cZ, 30, .inl gcu)), (m17, .inl (cI, 62, .inl gwy))] := hDn
  replace hS := hSn
  clear hPn hDn hSn
  refine lv_lconst (v := 0) hx hb d_Mo_answer_5 (by decide) ?_
  refine lv_lstore_n (lv' := [(2, .long 0), (0, .ref m0), (1, .int x)]) hx hb d_Mo_answer_6 rfl hl (by decide) rfl (fun ls hln => ?_)
  replace hl : lv_has ls 11 [(2, .long 0), (0, .ref m0), (1, .int x)] := hln
  clear hln
  refine lv_iconst (v := 1) hx hb d_Mo_answer_7 (by decide) ?_
  refine lv_istore (lv' := [(4, .int 1), (2, .long 0), (0, .ref m0), (1, .int x)]) hx hb d_Mo_answer_8 hl (by decide) rfl (fun ls hln => ?_)
  replace hl : lv_has ls 11 [(4, .int 1), (2, .long 0), (0, .ref m0), (1, .int x)] := hln
  clear hln
  have hloop2 : ∀ (n10 : Nat) (okn : Nat) (y2 : Int64) (hok : okn ≤ 1) (H : Heap) (locs : List Loc) (ls : Array Slot) (hl : lv_has ls 11 [(0, .ref m0), (1, .int x), (2, .long y2), (4, .int (nI okn))]) (hP : va_P (dC, dI) clA [(m0, .inr (9, [.int mth, .int (nI mt), .ref m1, .ref m2, .int mf, .int (nI mcd), .ref m3, .ref m4, .ref m5, .ref m6, .int (nI mev), .ref m7, .ref m8, .ref m9, .ref m10, .ref m11, .ref m12, .ref m13, .int mwh, .int mps, .ref m14, .ref m15, .long mlr, .int (nI mlt), .int (nI mlm), .ref m16, .int (-1), .ref m17])), (m1, .inl (cI, 8, .inl mp)), (m2, .inl (cI, 8, .inl mq)), (m7, .inl (cI, 30, .inl gtr)), (m8, .inl (cI, 30, .inl gca)), (m9, .inl (cL, 30, .inr (.inl gtn))), (m13, .inl (cZ, 30, .inl gcu)), (m17, .inl (cI, 62, .inl gwy))] H) (hD : va_D A [(m0, .inr (9, [.int mth, .int (nI mt), .ref m1, .ref m2, .int mf, .int (nI mcd), .ref m3, .ref m4, .ref m5, .ref m6, .int (nI mev), .ref m7, .ref m8, .ref m9, .ref m10, .ref m11, .ref m12, .ref m13, .int mwh, .int mps, .ref m14, .ref m15, .long mlr, .int (nI mlt), .int (nI mlm), .ref m16, .int (-1), .ref m17])), (m1, .inl (cI, 8, .inl mp)), (m2, .inl (cI, 8, .inl mq)), (m7, .inl (cI, 30, .inl gtr)), (m8, .inl (cI, 30, .inl gca)), (m9, .inl (cL, 30, .inr (.inl gtn))), (m13, .inl (cZ, 30, .inl gcu)), (m17, .inl (cI, 62, .inl gwy))]) (hS : va_S A s.heap H locs) (hm10 : okn * (2 ^ 30 - vY y2) < n10), W p l e (headSpec (Cond.code y_Mo_answer prog_11_method_32_code 11 (some .int) :: wsA) { frames := 3, cells := 0, slots := 0, locals := 72 }).room s m ([.ref m0, .int x] : List Value).toArray below meth c H locs 0 0 Q (F0 m 10 ls []) := by
    clear hl hP hD hS
    intro n10
    induction n10 with
    | zero => intro okn y2 hok H locs ls hl hP hD hS hm; exact absurd hm (Nat.not_lt_zero _)
    | succ n10 hloop2_ih =>
      intro okn y2 hok H locs ls hl hP hD hS hm10
      refine lv_iload hx hb d_Mo_answer_10 (lv_at hl 3 rfl) ?_
      refine lv_if_eq (tgt := 172) hx hb d_Mo_answer_12 (by decide) (fun hb3 => ?_) (fun hb3 => ?_)
      · skip
        replace hb3 := cv_eq (a := okn) (b := 0) (by omega) (by omega) hb3
        refine lv_iconst (v := (-1)) hx hb d_Mo_answer_172 (by decide) ?_
        have hP9 := hP.sub (ws' := [(m0, .inr (9, [.int mth, .int (nI mt), .ref m1, .ref m2, .int mf, .int (nI mcd), .ref m3, .ref m4, .ref m5, .ref m6, .int (nI mev), .ref m7, .ref m8, .ref m9, .ref m10, .ref m11, .ref m12, .ref m13, .int mwh, .int mps, .ref m14, .ref m15, .long mlr, .int (nI mlt), .int (nI mlm), .ref m16, .int (-1), .ref m17])), (m1, .inl (cI, 8, .inl mp)), (m2, .inl (cI, 8, .inl mq)), (m7, .inl (cI, 30, .inl gtr)), (m8, .inl (cI, 30, .inl gca)), (m9, .inl (cL, 30, .inr (.inl gtn))), (m13, .inl (cZ, 30, .inl gcu)), (m17, .inl (cI, 62, .inl gwy))]) [0, 1, 2, 3, 4, 5, 6, 7] rfl
        have hD9 := hD.sub (ws' := [(m0, .inr (9, [.int mth, .int (nI mt), .ref m1, .ref m2, .int mf, .int (nI mcd), .ref m3, .ref m4, .ref m5, .ref m6, .int (nI mev), .ref m7, .ref m8, .ref m9, .ref m10, .ref m11, .ref m12, .ref m13, .int mwh, .int mps, .ref m14, .ref m15, .long mlr, .int (nI mlt), .int (nI mlm), .ref m16, .int (-1), .ref m17])), (m1, .inl (cI, 8, .inl mp)), (m2, .inl (cI, 8, .inl mq)), (m7, .inl (cI, 30, .inl gtr)), (m8, .inl (cI, 30, .inl gca)), (m9, .inl (cL, 30, .inr (.inl gtn))), (m13, .inl (cZ, 30, .inl gcu)), (m17, .inl (cI, 62, .inl gwy))]) [0, 1, 2, 3, 4, 5, 6, 7] (by decide) rfl
        subst hQ
        exact W.iret (v := (-1)) hx hb hr (fun t9 ht9 hW => ⟨⟨(-1), (), rfl, trivial, (-1), gwy, (Or.inl rfl), (by first | assumption | omega | trivial | exact AllLt.zero | exact AllN.zero | exact AllM.zero | exact Or.inl rfl | exact Or.inr rfl), by rw [ht9]; exact hP9, hD9⟩, hS.F ht9⟩) hS.2.2 d_Mo_answer_173
      · skip
        replace hb3 := cv_ne (a := okn) (b := 0) (by omega) (by omega) hb3
        refine lv_aload_n hx hb d_Mo_answer_15 rfl (lv_at hl 0 rfl) ?_
        refine lv_lload_n hx hb d_Mo_answer_16 rfl (lv_at hl 2 rfl) ?_
        have hPc := hP.sub (ws' := [(m0, .inr (9, [.int mth, .int (nI mt), .ref m1, .ref m2, .int mf, .int (nI mcd), .ref m3, .ref m4, .ref m5, .ref m6, .int (nI mev), .ref m7, .ref m8, .ref m9, .ref m10, .ref m11, .ref m12, .ref m13, .int mwh, .int mps, .ref m14, .ref m15, .long mlr, .int (nI mlt), .int (nI mlm), .ref m16, .int (-1), .ref m17])), (m1, .inl (cI, 8, .inl mp)), (m2, .inl (cI, 8, .inl mq)), (m7, .inl (cI, 30, .inl gtr))]) [0, 1, 2, 3] rfl
        have hDc := hD.sub (ws' := [(m0, .inr (9, [.int mth, .int (nI mt), .ref m1, .ref m2, .int mf, .int (nI mcd), .ref m3, .ref m4, .ref m5, .ref m6, .int (nI mev), .ref m7, .ref m8, .ref m9, .ref m10, .ref m11, .ref m12, .ref m13, .int mwh, .int mps, .ref m14, .ref m15, .long mlr, .int (nI mlt), .int (nI mlm), .ref m16, .int (-1), .ref m17])), (m1, .inl (cI, 8, .inl mp)), (m2, .inl (cI, 8, .inl mq)), (m7, .inl (cI, 30, .inl gtr))]) [0, 1, 2, 3] (by decide) rfl
        have hFc := va_free (wc := [(m0, .inr (9, [.int mth, .int (nI mt), .ref m1, .ref m2, .int mf, .int (nI mcd), .ref m3, .ref m4, .ref m5, .ref m6, .int (nI mev), .ref m7, .ref m8, .ref m9, .ref m10, .ref m11, .ref m12, .ref m13, .int mwh, .int mps, .ref m14, .ref m15, .long mlr, .int (nI mlt), .int (nI mlm), .ref m16, .int (-1), .ref m17])), (m1, .inl (cI, 8, .inl mp)), (m2, .inl (cI, 8, .inl mq)), (m7, .inl (cI, 30, .inl gtr))]) hD hS hA [0, 1, 2, 3] rfl
        refine va_calli (va_runV (C := "NetUnfolderModel") (As := [.long y2]) (rest := []) ⟨hx, hb, hml, hown, ht⟩ (c_Mo_markingOf l dC dI cI cL cZ _ m0 m1 m2 m3 m4 m5 m6 m7 m8 m9 m10 m11 m12 m13 m14 m15 m16 m17 mth mt mf mcd mev mwh mps mlr mlt mlm (-1) mp mq gtr y2 (by first | assumption | omega | trivial | exact AllLt.zero | exact AllN.zero | exact AllM.zero | exact Or.inl rfl | exact Or.inr rfl) (by first | assumption | omega | trivial | exact AllLt.zero | exact AllN.zero | exact AllM.zero | exact Or.inl rfl | exact Or.inr rfl)) (cwV 1 ht (good_V wd_4_181 wd_4_183 ws_Mo_markingOf wd_1_10 wd_4_184) rfl rfl rfl (by decide +kernel) ⟨Nat.le_of_ble_eq_true rfl, Nat.le_of_ble_eq_true rfl⟩) ⟨fun a U g mk q => by obtain ⟨q0, q1, qP, qK, qD, qN⟩ := q; exact ⟨q0, q1, qP, va_K.moved (u := U) (U := U.calling g mk a) (Vm.Alike.refl U.vm) qK, qD, NwA.same (u := U) rfl qN⟩, (va_recv (q0 := 0) (ci := 9) hK hP rfl rfl), fun U hU hW => ⟨rfl, by rw [hU], by rw [hU]; exact hPc, va_K.moved hW.alike hK, hDc.weaken (fun _ _ _ _ => trivial), NwA.warm hW hN⟩⟩ rfl rfl hl.1 rfl (lv_room (Nat.le_of_ble_eq_true rfl)) d_Mo_answer_17 ⟨Nat.le_of_ble_eq_true rfl, Nat.le_of_ble_eq_true rfl⟩) hS (fun q _ h => hFc q h) hFc (fun r6 u9 t9 H4 locs ht9 hvm hw5 hB hz1 hk1 hSn => ?_)
        obtain ⟨hP1, hD1⟩ := hB
        rw [ht9] at hP1
        obtain ⟨hPn, hDn⟩ := va_join (wr := [(m8, .inl (cI, 30, .inl gca)), (m9, .inl (cL, 30, .inr (.inl gtn))), (m13, .inl (cZ, 30, .inl gcu)), (m17, .inl (cI, 62, .inl gwy))]) (w1 := [(m0, .inr (9, [.int mth, .int (nI mt), .ref m1, .ref m2, .int mf, .int (nI mcd), .ref m3, .ref m4, .ref m5, .ref m6, .int (nI mev), .ref m7, .ref m8, .ref m9, .ref m10, .ref m11, .ref m12, .ref m13, .int mwh, .int mps, .ref m14, .ref m15, .long mlr, .int (nI mlt), .int (nI mlm), .ref m16, .int (-1), .ref m17])), (m1, .inl (cI, 8, .inl mp)), (m2, .inl (cI, 8, .inl mq)), (m7, .inl (cI, 30, .inl gtr))]) hP hD [0, 1, 2, 3] [4, 5, 6, 7] rfl rfl (by decide) (by decide) hk1 hFc hP1 hD1
        replace hP : va_P (dC, dI) clA [(m8, .inl (cI, 30, .inl gca)), (m9, .inl (cL, 30, .inr (.inl gtn))), (m13, .inl (cZ, 30, .inl gcu)), (m17, .inl (cI, 62, .inl gwy)), (m0, .inr (9, [.int mth, .int (nI mt), .ref m1, .ref m2, .int mf, .int (nI mcd), .ref m3, .ref m4, .ref m5, .ref m6, .int (nI mev), .ref m7, .ref m8, .ref m9, .ref m10, .ref m11, .ref m12, .ref m13, .int mwh, .int mps, .ref m14, .ref m15, .long mlr, .int (nI mlt), .int (nI mlm), .ref m16, .int (-1), .ref m17])), (m1, .inl (cI, 8, .inl mp)), (m2, .inl (cI, 8, .inl mq)), (m7, .inl (cI, 30, .inl gtr))] H4 := hPn
        replace hD : va_D A [(m8, .inl (cI, 30, .inl gca)), (m9, .inl (cL, 30, .inr (.inl gtn))), (m13, .inl (cZ, 30, .inl gcu)), (m17, .inl (cI, 62, .inl gwy)), (m0, .inr (9, [.int mth, .int (nI mt), .ref m1, .ref m2, .int mf, .int (nI mcd), .ref m3, .ref m4, .ref m5, .ref m6, .int (nI mev), .ref m7, .ref m8, .ref m9, .ref m10, .ref m11, .ref m12, .ref m13, .int mwh, .int mps, .ref m14, .ref m15, .long mlr, .int (nI mlt), .int (nI mlm), .ref m16, .int (-1), .ref m17])), (m1, .inl (cI, 8, .inl mp)), (m2, .inl (cI, 8, .inl mq)), (m7, .inl (cI, 30, .inl gtr))] := hDn
        replace hS := hSn
        clear hPn hDn hSn
        clear hPc hDc hFc hP1 hD1 hk1 hz1 ht9 hvm
        refine W.cs (cells' := 0) (slots' := 0) rfl rfl ?_
        refine lv_istore (lv' := [(5, .int r6), (0, .ref m0), (1, .int x), (2, .long y2), (4, .int (nI okn))]) hx hb d_Mo_answer_20 hl (by decide) rfl (fun ls hln => ?_)
        replace hl : lv_has ls 11 [(5, .int r6), (0, .ref m0), (1, .int x), (2, .long y2), (4, .int (nI okn))] := hln
        clear hln
        refine lv_iload_n hx hb d_Mo_answer_22 rfl (lv_at hl 2 rfl) ?_
        refine lv_iconst (v := (-1)) hx hb d_Mo_answer_23 (by decide) ?_
        refine lv_icmp_ne (tgt := 39) hx hb d_Mo_answer_24 (by decide) (fun hb7 => ?_) (fun hb7 => ?_)
        · skip
          refine lv_iload hx hb d_Mo_answer_39 (lv_at hl 0 rfl) ?_
          refine lv_iload_n hx hb d_Mo_answer_41 rfl (lv_at hl 2 rfl) ?_
          refine lv_icmp_ne (tgt := 60) hx hb d_Mo_answer_42 (by decide) (fun hb8 => ?_) (fun hb8 => ?_)
          · skip
            refine lv_aload_n hx hb d_Mo_answer_60 rfl (lv_at hl 1 rfl) ?_
            refine va_get (D := (dC, dI)) (ci := 9) (v := .int (nI mev)) (C := "NetUnfolderModel") (T := T_Mo) (N := 28) hx hb ht in_Mo hown hK hP 4 rfl rfl 10 (by decide) (ht _ wd_4_10) (fun _ h9 => h9) rfl d_Mo_answer_61 ?_
            refine lv_iconst (v := 1) hx hb d_Mo_answer_64 (by decide) ?_
            refine lv_isub hx hb d_Mo_answer_65 ?_
            obtain ⟨kv0, kv0_e, kv0_k⟩ := KvI.ini (n := mev) hev
            refine ci_i (y := kv0) kv0_e ?_
            refine lv_istore (lv' := [(6, .int kv0), (5, .int r6), (0, .ref m0), (1, .int x), (2, .long y2), (4, .int (nI okn))]) hx hb d_Mo_answer_66 hl (by decide) rfl (fun ls hln => ?_)
            replace hl : lv_has ls 11 [(6, .int kv0), (5, .int r6), (0, .ref m0), (1, .int x), (2, .long y2), (4, .int (nI okn))] := hln
            clear hln
            refine lv_lload_n hx hb d_Mo_answer_68 rfl (lv_at hl 4 rfl) ?_
            refine lv_lstore (lv' := [(7, .long y2), (6, .int kv0), (5, .int r6), (0, .ref m0), (1, .int x), (2, .long y2), (4, .int (nI okn))]) hx hb d_Mo_answer_69 hl (by decide) rfl (fun ls hln => ?_)
            replace hl : lv_has ls 11 [(7, .long y2), (6, .int kv0), (5, .int r6), (0, .ref m0), (1, .int x), (2, .long y2), (4, .int (nI okn))] := hln
            clear hln
            refine lv_iconst (v := 0) hx hb d_Mo_answer_71 (by decide) ?_
            refine lv_istore (lv' := [(9, .int 0), (7, .long y2), (6, .int kv0), (5, .int r6), (0, .ref m0), (1, .int x), (2, .long y2), (4, .int (nI okn))]) hx hb d_Mo_answer_72 hl (by decide) rfl (fun ls hln => ?_)
            replace hl : lv_has ls 11 [(9, .int 0), (7, .long y2), (6, .int kv0), (5, .int r6), (0, .ref m0), (1, .int x), (2, .long y2), (4, .int (nI okn))] := hln
            clear hln
            have hloop9 : ∀ (n74 : Nat) (g : Nat) (kv : Int32) (z7 : Int64) (fnd : Nat) (hkv : KvI g kv) (hg : g ≤ mev) (hag : ∀ i, i < g → z7.toBitVec.getLsbD i = y2.toBitVec.getLsbD i) (hfn : fnd = 0 ∨ (fnd = 1 ∧ ∃ j, g = j + 1 ∧ y2.toBitVec.getLsbD j = false)) (H : Heap) (locs : List Loc) (ls : Array Slot) (hl : lv_has ls 11 [(0, .ref m0), (1, .int x), (2, .long y2), (4, .int (nI okn)), (6, .int kv), (7, .long z7), (9, .int (nI fnd))]) (hP : va_P (dC, dI) clA [(m8, .inl (cI, 30, .inl gca)), (m9, .inl (cL, 30, .inr (.inl gtn))), (m13, .inl (cZ, 30, .inl gcu)), (m17, .inl (cI, 62, .inl gwy)), (m0, .inr (9, [.int mth, .int (nI mt), .ref m1, .ref m2, .int mf, .int (nI mcd), .ref m3, .ref m4, .ref m5, .ref m6, .int (nI mev), .ref m7, .ref m8, .ref m9, .ref m10, .ref m11, .ref m12, .ref m13, .int mwh, .int mps, .ref m14, .ref m15, .long mlr, .int (nI mlt), .int (nI mlm), .ref m16, .int (-1), .ref m17])), (m1, .inl (cI, 8, .inl mp)), (m2, .inl (cI, 8, .inl mq)), (m7, .inl (cI, 30, .inl gtr))] H) (hD : va_D A [(m8, .inl (cI, 30, .inl gca)), (m9, .inl (cL, 30, .inr (.inl gtn))), (m13, .inl (cZ, 30, .inl gcu)), (m17, .inl (cI, 62, .inl gwy)), (m0, .inr (9, [.int mth, .int (nI mt), .ref m1, .ref m2, .int mf, .int (nI mcd), .ref m3, .ref m4, .ref m5, .ref m6, .int (nI mev), .ref m7, .ref m8, .ref m9, .ref m10, .ref m11, .ref m12, .ref m13, .int mwh, .int mps, .ref m14, .ref m15, .long mlr, .int (nI mlt), .int (nI mlm), .ref m16, .int (-1), .ref m17])), (m1, .inl (cI, 8, .inl mp)), (m2, .inl (cI, 8, .inl mq)), (m7, .inl (cI, 30, .inl gtr))]) (hS : va_S A s.heap H locs) (hm74 : 2 * g + (1 - fnd) < n74), W p l e (headSpec (Cond.code y_Mo_answer prog_11_method_32_code 11 (some .int) :: wsA) { frames := 3, cells := 0, slots := 0, locals := 72 }).room s m ([.ref m0, .int x] : List Value).toArray below meth c H locs 0 0 Q (F0 m 74 ls []) := by
              clear hl hP hD hS
              intro n74
              induction n74 with
              | zero => intro g kv z7 fnd hkv hg hag hfn H locs ls hl hP hD hS hm; exact absurd hm (Nat.not_lt_zero _)
              | succ n74 hloop9_ih =>
                intro g kv z7 fnd hkv hg hag hfn H locs ls hl hP hD hS hm74
                refine lv_iload hx hb d_Mo_answer_74 (lv_at hl 4 rfl) ?_
                refine lv_if_lt (tgt := 148) hx hb d_Mo_answer_76 (by decide) (fun hb10 => ?_) (fun hb10 => ?_)
                · skip
                  refine lv_iload hx hb d_Mo_answer_148 (lv_at hl 6 rfl) ?_
                  refine lv_istore (lv' := [(4, .int (nI fnd)), (0, .ref m0), (1, .int x), (2, .long y2), (6, .int kv), (7, .long z7), (9, .int (nI fnd))]) hx hb d_Mo_answer_150 hl (by decide) rfl (fun ls hln => ?_)
                  replace hl : lv_has ls 11 [(4, .int (nI fnd)), (0, .ref m0), (1, .int x), (2, .long y2), (6, .int kv), (7, .long z7), (9, .int (nI fnd))] := hln
                  clear hln
                  refine lv_iload hx hb d_Mo_answer_152 (lv_at hl 6 rfl) ?_
                  refine lv_if_eq (tgt := 167) hx hb d_Mo_answer_154 (by decide) (fun hb11 => ?_) (fun hb11 => ?_)
                  · skip
                    replace hb11 := cv_eq (a := fnd) (b := 0) (by omega) (by omega) hb11
                    refine lv_lconst (v := 0) hx hb d_Mo_answer_167 (by decide) ?_
                    refine lv_lstore_n (lv' := [(2, .long 0), (4, .int (nI fnd)), (0, .ref m0), (1, .int x), (6, .int kv), (7, .long z7), (9, .int (nI fnd))]) hx hb d_Mo_answer_168 rfl hl (by decide) rfl (fun ls hln => ?_)
                    replace hl : lv_has ls 11 [(2, .long 0), (4, .int (nI fnd)), (0, .ref m0), (1, .int x), (6, .int kv), (7, .long z7), (9, .int (nI fnd))] := hln
                    clear hln
                    refine lv_goto (tgt := 10) hx hb d_Mo_answer_169 (by decide) ?_
                    exact hloop2_ih fnd 0 (fn_le hfn) _ _ ls (lv_sub hl [2, 3, 0, 1] rfl) (hP.sub [4, 5, 6, 7, 0, 1, 2, 3] rfl) (hD.sub [4, 5, 6, 7, 0, 1, 2, 3] (by decide) rfl) hS (ans_m0 (by omega) hb11 hm10)
                  · skip
                    replace hb11 := cv_ne (a := fnd) (b := 0) (by omega) (by omega) hb11
                    refine lv_lload hx hb d_Mo_answer_157 (lv_at hl 5 rfl) ?_
                    refine lv_lconst (v := 1) hx hb d_Mo_answer_159 (by decide) ?_
                    refine lv_iload hx hb d_Mo_answer_160 (lv_at hl 4 rfl) ?_
                    refine lv_lshl (v := 1 <<< (Int32.toInt64 kv &&& 63)) hx hb d_Mo_answer_162 rfl ?_
                    refine lv_lor hx hb d_Mo_answer_163 ?_
                    refine lv_goto (tgt := 168) hx hb d_Mo_answer_164 (by decide) ?_
                    refine lv_lstore_n (lv' := [(2, .long (z7 ||| (1 <<< (Int32.toInt64 kv &&& 63)))), (4, .int (nI fnd)), (0, .ref m0), (1, .int x), (6, .int kv), (7, .long z7), (9, .int (nI fnd))]) hx hb d_Mo_answer_168 rfl hl (by decide) rfl (fun ls hln => ?_)
                    replace hl : lv_has ls 11 [(2, .long (z7 ||| (1 <<< (Int32.toInt64 kv &&& 63)))), (4, .int (nI fnd)), (0, .ref m0), (1, .int x), (6, .int kv), (7, .long z7), (9, .int (nI fnd))] := hln
                    clear hln
                    refine lv_goto (tgt := 10) hx hb d_Mo_answer_169 (by decide) ?_
                    exact hloop2_ih fnd (z7 ||| (1 <<< (Int32.toInt64 kv &&& 63))) (fn_le hfn) _ _ ls (lv_sub hl [2, 3, 0, 1] rfl) (hP.sub [4, 5, 6, 7, 0, 1, 2, 3] rfl) (hD.sub [4, 5, 6, 7, 0, 1, 2, 3] (by decide) rfl) hS (ans_ms (by omega) hok (fn_le hfn) (ans_lt hg hev hkv hag hfn hb11) hm10)
                · skip
                  obtain ⟨j12, j12_l, j12_g, rfl⟩ := KvI.nat hkv hb10
                  refine lv_iload hx hb d_Mo_answer_79 (lv_at hl 6 rfl) ?_
                  refine lv_if_ne (tgt := 148) hx hb d_Mo_answer_81 (by decide) (fun hb13 => ?_) (fun hb13 => ?_)
                  · skip
                    replace hb13 := cv_ne (a := fnd) (b := 0) (by omega) (by omega) hb13
                    refine lv_iload hx hb d_Mo_answer_148 (lv_at hl 6 rfl) ?_
                    refine lv_istore (lv' := [(4, .int (nI fnd)), (0, .ref m0), (1, .int x), (2, .long y2), (6, .int (nI j12)), (7, .long z7), (9, .int (nI fnd))]) hx hb d_Mo_answer_150 hl (by decide) rfl (fun ls hln => ?_)
                    replace hl : lv_has ls 11 [(4, .int (nI fnd)), (0, .ref m0), (1, .int x), (2, .long y2), (6, .int (nI j12)), (7, .long z7), (9, .int (nI fnd))] := hln
                    clear hln
                    refine lv_iload hx hb d_Mo_answer_152 (lv_at hl 6 rfl) ?_
                    refine lv_if_eq (tgt := 167) hx hb d_Mo_answer_154 (by decide) (fun hb14 => ?_) (fun hb14 => ?_)
                    · skip
                      replace hb14 := cv_eq (a := fnd) (b := 0) (by omega) (by omega) hb14
                      refine lv_lconst (v := 0) hx hb d_Mo_answer_167 (by decide) ?_
                      refine lv_lstore_n (lv' := [(2, .long 0), (4, .int (nI fnd)), (0, .ref m0), (1, .int x), (6, .int (nI j12)), (7, .long z7), (9, .int (nI fnd))]) hx hb d_Mo_answer_168 rfl hl (by decide) rfl (fun ls hln => ?_)
                      replace hl : lv_has ls 11 [(2, .long 0), (4, .int (nI fnd)), (0, .ref m0), (1, .int x), (6, .int (nI j12)), (7, .long z7), (9, .int (nI fnd))] := hln
                      clear hln
                      refine lv_goto (tgt := 10) hx hb d_Mo_answer_169 (by decide) ?_
                      exact hloop2_ih fnd 0 (fn_le hfn) _ _ ls (lv_sub hl [2, 3, 0, 1] rfl) (hP.sub [4, 5, 6, 7, 0, 1, 2, 3] rfl) (hD.sub [4, 5, 6, 7, 0, 1, 2, 3] (by decide) rfl) hS (ans_m0 (by omega) hb14 hm10)
                    · skip
                      replace hb14 := cv_ne (a := fnd) (b := 0) (by omega) (by omega) hb14
                      refine lv_lload hx hb d_Mo_answer_157 (lv_at hl 5 rfl) ?_
                      refine lv_lconst (v := 1) hx hb d_Mo_answer_159 (by decide) ?_
                      refine lv_iload hx hb d_Mo_answer_160 (lv_at hl 4 rfl) ?_
                      refine lv_lshl (v := 1 <<< (Int32.toInt64 (nI j12) &&& 63)) hx hb d_Mo_answer_162 rfl ?_
                      refine lv_lor hx hb d_Mo_answer_163 ?_
                      refine lv_goto (tgt := 168) hx hb d_Mo_answer_164 (by decide) ?_
                      refine lv_lstore_n (lv' := [(2, .long (z7 ||| (1 <<< (Int32.toInt64 (nI j12) &&& 63)))), (4, .int (nI fnd)), (0, .ref m0), (1, .int x), (6, .int (nI j12)), (7, .long z7), (9, .int (nI fnd))]) hx hb d_Mo_answer_168 rfl hl (by decide) rfl (fun ls hln => ?_)
                      replace hl : lv_has ls 11 [(2, .long (z7 ||| (1 <<< (Int32.toInt64 (nI j12) &&& 63)))), (4, .int (nI fnd)), (0, .ref m0), (1, .int x), (6, .int (nI j12)), (7, .long z7), (9, .int (nI fnd))] := hln
                      clear hln
                      refine lv_goto (tgt := 10) hx hb d_Mo_answer_169 (by decide) ?_
                      exact hloop2_ih fnd (z7 ||| (1 <<< (Int32.toInt64 (nI j12) &&& 63))) (fn_le hfn) _ _ ls (lv_sub hl [2, 3, 0, 1] rfl) (hP.sub [4, 5, 6, 7, 0, 1, 2, 3] rfl) (hD.sub [4, 5, 6, 7, 0, 1, 2, 3] (by decide) rfl) hS (ans_ms (by omega) hok (fn_le hfn) (ans_lt hg hev hkv hag hfn hb14) hm10)
                  · skip
                    replace hb13 := cv_eq (a := fnd) (b := 0) (by omega) (by omega) hb13
                    refine lv_lload hx hb d_Mo_answer_84 (lv_at hl 5 rfl) ?_
                    refine lv_iload hx hb d_Mo_answer_86 (lv_at hl 4 rfl) ?_
                    have hPc : va_P (dC, dI) clA [] _ := pu_P (H := H)
                    have hDc : va_D (fun _ => True) [] := pu_D
                    have hFc := pu_free hS hA
                    refine va_calli (va_runS (As := [.long z7, .int (nI j12)]) (rest := []) ⟨hx, hb, hml, hown, ht⟩ (c_Mo_has l dC dI cI cL cZ _ z7 j12 (by first | assumption | omega | trivial | exact AllLt.zero | exact AllN.zero | exact AllM.zero | exact Or.inl rfl | exact Or.inr rfl)) (va_cwS 2 ht (good_S wd_4_121 wd_4_122 wd_1_10 wd_4_123) rfl rfl rfl (by decide +kernel) ⟨Nat.le_of_ble_eq_true rfl, Nat.le_of_ble_eq_true rfl⟩) ⟨fun a U g mk q => by obtain ⟨q0, q1, qP, qK, qD, qN⟩ := q; exact ⟨q0, q1, qP, va_K.moved (u := U) (U := U.calling g mk a) (Vm.Alike.refl U.vm) qK, qD, NwA.same (u := U) rfl qN⟩, fun U hU hW => ⟨rfl, by rw [hU], by rw [hU]; exact hPc, va_K.moved hW.alike hK, hDc.weaken (fun _ _ _ _ => trivial), NwA.warm hW hN⟩⟩ rfl rfl hl.1 rfl (lv_room (Nat.le_of_ble_eq_true rfl)) d_Mo_answer_88 ⟨Nat.le_of_ble_eq_true rfl, Nat.le_of_ble_eq_true rfl⟩) hS (fun q _ h => hFc q h) hFc (fun r17 u9 t9 H15 locs ht9 hvm hw16 hB hz1 hk1 hSn => ?_)
                    replace hP : va_P (dC, dI) clA [(m8, .inl (cI, 30, .inl gca)), (m9, .inl (cL, 30, .inr (.inl gtn))), (m13, .inl (cZ, 30, .inl gcu)), (m17, .inl (cI, 62, .inl gwy)), (m0, .inr (9, [.int mth, .int (nI mt), .ref m1, .ref m2, .int mf, .int (nI mcd), .ref m3, .ref m4, .ref m5, .ref m6, .int (nI mev), .ref m7, .ref m8, .ref m9, .ref m10, .ref m11, .ref m12, .ref m13, .int mwh, .int mps, .ref m14, .ref m15, .long mlr, .int (nI mlt), .int (nI mlm), .ref m16, .int (-1), .ref m17])), (m1, .inl (cI, 8, .inl mp)), (m2, .inl (cI, 8, .inl mq)), (m7, .inl (cI, 30, .inl gtr))] H15 := pu_keep hP hk1
                    replace hS := hSn
                    clear hSn hPc hDc hFc hk1 hz1 ht9 hvm hB
                    refine W.cs (cells' := 0) (slots' := 0) rfl rfl ?_
                    subst hw16
                    refine lv_istore (lv' := [(10, .int (hasv z7 j12)), (0, .ref m0), (1, .int x), (2, .long y2), (4, .int (nI okn)), (6, .int (nI j12)), (7, .long z7), (9, .int (nI fnd))]) hx hb d_Mo_answer_91 hl (by decide) rfl (fun ls hln => ?_)
                    replace hl : lv_has ls 11 [(10, .int (hasv z7 j12)), (0, .ref m0), (1, .int x), (2, .long y2), (4, .int (nI okn)), (6, .int (nI j12)), (7, .long z7), (9, .int (nI fnd))] := hln
                    clear hln
                    refine lv_lload hx hb d_Mo_answer_93 (lv_at hl 6 rfl) ?_
                    refine lv_lconst (v := 1) hx hb d_Mo_answer_95 (by decide) ?_
                    refine lv_iload hx hb d_Mo_answer_96 (lv_at hl 5 rfl) ?_
                    refine lv_lshl (v := 1 <<< (Int32.toInt64 (nI j12) &&& 63)) hx hb d_Mo_answer_98 rfl ?_
                    refine lv_ldc2 hx hb hown (ht _ wd_4_124) d_Mo_answer_99 ?_
                    refine lv_lxor hx hb d_Mo_answer_102 ?_
                    refine lv_land hx hb d_Mo_answer_103 ?_
                    refine lv_lstore (lv' := [(7, .long (z7 &&& ((1 <<< (Int32.toInt64 (nI j12) &&& 63)) ^^^ (-1)))), (10, .int (hasv z7 j12)), (0, .ref m0), (1, .int x), (2, .long y2), (4, .int (nI okn)), (6, .int (nI j12)), (9, .int (nI fnd))]) hx hb d_Mo_answer_104 hl (by decide) rfl (fun ls hln => ?_)
                    replace hl : lv_has ls 11 [(7, .long (z7 &&& ((1 <<< (Int32.toInt64 (nI j12) &&& 63)) ^^^ (-1)))), (10, .int (hasv z7 j12)), (0, .ref m0), (1, .int x), (2, .long y2), (4, .int (nI okn)), (6, .int (nI j12)), (9, .int (nI fnd))] := hln
                    clear hln
                    refine lv_iload hx hb d_Mo_answer_106 (lv_at hl 1 rfl) ?_
                    refine lv_if_ne (tgt := 126) hx hb d_Mo_answer_108 (by decide) (fun hb18 => ?_) (fun hb18 => ?_)
                    · skip
                      refine lv_iconst (v := 0) hx hb d_Mo_answer_126 (by decide) ?_
                      refine lv_istore (lv' := [(9, .int 0), (7, .long (z7 &&& ((1 <<< (Int32.toInt64 (nI j12) &&& 63)) ^^^ (-1)))), (10, .int (hasv z7 j12)), (0, .ref m0), (1, .int x), (2, .long y2), (4, .int (nI okn)), (6, .int (nI j12))]) hx hb d_Mo_answer_127 hl (by decide) rfl (fun ls hln => ?_)
                      replace hl : lv_has ls 11 [(9, .int 0), (7, .long (z7 &&& ((1 <<< (Int32.toInt64 (nI j12) &&& 63)) ^^^ (-1)))), (10, .int (hasv z7 j12)), (0, .ref m0), (1, .int x), (2, .long y2), (4, .int (nI okn)), (6, .int (nI j12))] := hln
                      clear hln
                      refine lv_iload hx hb d_Mo_answer_129 (lv_at hl 0 rfl) ?_
                      refine lv_if_eq (tgt := 139) hx hb d_Mo_answer_131 (by decide) (fun _ => ?_) (fun h => (h (by decide)).elim)
                      refine lv_iload hx hb d_Mo_answer_139 (lv_at hl 7 rfl) ?_
                      refine lv_iconst (v := 1) hx hb d_Mo_answer_141 (by decide) ?_
                      refine lv_isub hx hb d_Mo_answer_142 ?_
                      obtain ⟨kv19, kv19_e, kv19_k⟩ := KvI.dec2 (j := j12) j12_l
                      refine ci_i (y := kv19) kv19_e ?_
                      refine lv_istore (lv' := [(6, .int kv19), (9, .int 0), (7, .long (z7 &&& ((1 <<< (Int32.toInt64 (nI j12) &&& 63)) ^^^ (-1)))), (10, .int (hasv z7 j12)), (0, .ref m0), (1, .int x), (2, .long y2), (4, .int (nI okn))]) hx hb d_Mo_answer_143 hl (by decide) rfl (fun ls hln => ?_)
                      replace hl : lv_has ls 11 [(6, .int kv19), (9, .int 0), (7, .long (z7 &&& ((1 <<< (Int32.toInt64 (nI j12) &&& 63)) ^^^ (-1)))), (10, .int (hasv z7 j12)), (0, .ref m0), (1, .int x), (2, .long y2), (4, .int (nI okn))] := hln
                      clear hln
                      refine lv_goto (tgt := 74) hx hb d_Mo_answer_145 (by decide) ?_
                      exact hloop9_ih j12 kv19 (z7 &&& ((1 <<< (Int32.toInt64 (nI j12) &&& 63)) ^^^ (-1))) 0 kv19_k (by first | assumption | omega | trivial | exact AllLt.zero | exact AllN.zero | exact AllM.zero | exact Or.inl rfl | exact Or.inr rfl) (clr_ag hag (by omega) j12_g) (Or.inl rfl) _ _ ls (lv_sub hl [4, 5, 6, 7, 0, 2, 1] rfl) (hP.sub [0, 1, 2, 3, 4, 5, 6, 7] rfl) (hD.sub [0, 1, 2, 3, 4, 5, 6, 7] (by decide) rfl) hS (by omega)
                    · skip
                      refine lv_aload_n hx hb d_Mo_answer_111 rfl (lv_at hl 2 rfl) ?_
                      refine lv_lload hx hb d_Mo_answer_112 (lv_at hl 0 rfl) ?_
                      refine lv_iload hx hb d_Mo_answer_114 (lv_at hl 6 rfl) ?_
                      have hPc := hP.sub (ws' := [(m0, .inr (9, [.int mth, .int (nI mt), .ref m1, .ref m2, .int mf, .int (nI mcd), .ref m3, .ref m4, .ref m5, .ref m6, .int (nI mev), .ref m7, .ref m8, .ref m9, .ref m10, .ref m11, .ref m12, .ref m13, .int mwh, .int mps, .ref m14, .ref m15, .long mlr, .int (nI mlt), .int (nI mlm), .ref m16, .int (-1), .ref m17])), (m8, .inl (cI, 30, .inl gca)), (m9, .inl (cL, 30, .inr (.inl gtn))), (m13, .inl (cZ, 30, .inl gcu))]) [4, 0, 1, 2] rfl
                      have hDc := hD.sub (ws' := [(m0, .inr (9, [.int mth, .int (nI mt), .ref m1, .ref m2, .int mf, .int (nI mcd), .ref m3, .ref m4, .ref m5, .ref m6, .int (nI mev), .ref m7, .ref m8, .ref m9, .ref m10, .ref m11, .ref m12, .ref m13, .int mwh, .int mps, .ref m14, .ref m15, .long mlr, .int (nI mlt), .int (nI mlm), .ref m16, .int (-1), .ref m17])), (m8, .inl (cI, 30, .inl gca)), (m9, .inl (cL, 30, .inr (.inl gtn))), (m13, .inl (cZ, 30, .inl gcu))]) [4, 0, 1, 2] (by decide) rfl
                      have hFc := va_free (wc := [(m0, .inr (9, [.int mth, .int (nI mt), .ref m1, .ref m2, .int mf, .int (nI mcd), .ref m3, .ref m4, .ref m5, .ref m6, .int (nI mev), .ref m7, .ref m8, .ref m9, .ref m10, .ref m11, .ref m12, .ref m13, .int mwh, .int mps, .ref m14, .ref m15, .long mlr, .int (nI mlt), .int (nI mlm), .ref m16, .int (-1), .ref m17])), (m8, .inl (cI, 30, .inl gca)), (m9, .inl (cL, 30, .inr (.inl gtn))), (m13, .inl (cZ, 30, .inl gcu))]) hD hS hA [4, 0, 1, 2] rfl
                      refine va_calli (va_runV (C := "NetUnfolderModel") (As := [.long (z7 &&& ((1 <<< (Int32.toInt64 (nI j12) &&& 63)) ^^^ (-1))), .int (nI j12)]) (rest := []) ⟨hx, hb, hml, hown, ht⟩ (c_Mo_fits l dC dI cI cL cZ _ m0 m1 m2 m3 m4 m5 m6 m7 m8 m9 m10 m11 m12 m13 m14 m15 m16 m17 mth mt mf mcd mev mwh mps mlr mlt mlm (-1) gca gtn gcu (z7 &&& ((1 <<< (Int32.toInt64 (nI j12) &&& 63)) ^^^ (-1))) j12 (by first | assumption | omega | trivial | exact AllLt.zero | exact AllN.zero | exact AllM.zero | exact Or.inl rfl | exact Or.inr rfl) (by first | assumption | omega | trivial | exact AllLt.zero | exact AllN.zero | exact AllM.zero | exact Or.inl rfl | exact Or.inr rfl)) (cwV 2 ht (good_V wd_4_200 wd_4_202 ws_Mo_fits wd_1_10 wd_4_203) rfl rfl rfl (by decide +kernel) ⟨Nat.le_of_ble_eq_true rfl, Nat.le_of_ble_eq_true rfl⟩) ⟨fun a U g mk q => by obtain ⟨q0, q1, qP, qK, qD, qN⟩ := q; exact ⟨q0, q1, qP, va_K.moved (u := U) (U := U.calling g mk a) (Vm.Alike.refl U.vm) qK, qD, NwA.same (u := U) rfl qN⟩, (va_recv (q0 := 4) (ci := 9) hK hP rfl rfl), fun U hU hW => ⟨rfl, by rw [hU], by rw [hU]; exact hPc, va_K.moved hW.alike hK, hDc.weaken (fun _ _ _ _ => trivial), NwA.warm hW hN⟩⟩ rfl rfl hl.1 rfl (lv_room (Nat.le_of_ble_eq_true rfl)) d_Mo_answer_116 ⟨Nat.le_of_ble_eq_true rfl, Nat.le_of_ble_eq_true rfl⟩) hS (fun q _ h => hFc q h) hFc (fun r22 u9 t9 H20 locs ht9 hvm hw21 hB hz1 hk1 hSn => ?_)
                      obtain ⟨hP1, hD1⟩ := hB
                      rw [ht9] at hP1
                      obtain ⟨hPn, hDn⟩ := va_join (wr := [(m17, .inl (cI, 62, .inl gwy)), (m1, .inl (cI, 8, .inl mp)), (m2, .inl (cI, 8, .inl mq)), (m7, .inl (cI, 30, .inl gtr))]) (w1 := [(m0, .inr (9, [.int mth, .int (nI mt), .ref m1, .ref m2, .int mf, .int (nI mcd), .ref m3, .ref m4, .ref m5, .ref m6, .int (nI mev), .ref m7, .ref m8, .ref m9, .ref m10, .ref m11, .ref m12, .ref m13, .int mwh, .int mps, .ref m14, .ref m15, .long mlr, .int (nI mlt), .int (nI mlm), .ref m16, .int (-1), .ref m17])), (m8, .inl (cI, 30, .inl gca)), (m9, .inl (cL, 30, .inr (.inl gtn))), (m13, .inl (cZ, 30, .inl gcu))]) hP hD [4, 0, 1, 2] [3, 5, 6, 7] rfl rfl (by decide) (by decide) hk1 hFc hP1 hD1
                      replace hP : va_P (dC, dI) clA [(m17, .inl (cI, 62, .inl gwy)), (m1, .inl (cI, 8, .inl mp)), (m2, .inl (cI, 8, .inl mq)), (m7, .inl (cI, 30, .inl gtr)), (m0, .inr (9, [.int mth, .int (nI mt), .ref m1, .ref m2, .int mf, .int (nI mcd), .ref m3, .ref m4, .ref m5, .ref m6, .int (nI mev), .ref m7, .ref m8, .ref m9, .ref m10, .ref m11, .ref m12, .ref m13, .int mwh, .int mps, .ref m14, .ref m15, .long mlr, .int (nI mlt), .int (nI mlm), .ref m16, .int (-1), .ref m17])), (m8, .inl (cI, 30, .inl gca)), (m9, .inl (cL, 30, .inr (.inl gtn))), (m13, .inl (cZ, 30, .inl gcu))] H20 := hPn
                      replace hD : va_D A [(m17, .inl (cI, 62, .inl gwy)), (m1, .inl (cI, 8, .inl mp)), (m2, .inl (cI, 8, .inl mq)), (m7, .inl (cI, 30, .inl gtr)), (m0, .inr (9, [.int mth, .int (nI mt), .ref m1, .ref m2, .int mf, .int (nI mcd), .ref m3, .ref m4, .ref m5, .ref m6, .int (nI mev), .ref m7, .ref m8, .ref m9, .ref m10, .ref m11, .ref m12, .ref m13, .int mwh, .int mps, .ref m14, .ref m15, .long mlr, .int (nI mlt), .int (nI mlm), .ref m16, .int (-1), .ref m17])), (m8, .inl (cI, 30, .inl gca)), (m9, .inl (cL, 30, .inr (.inl gtn))), (m13, .inl (cZ, 30, .inl gcu))] := hDn
                      replace hS := hSn
                      clear hPn hDn hSn
                      clear hPc hDc hFc hP1 hD1 hk1 hz1 ht9 hvm
                      refine W.cs (cells' := 0) (slots' := 0) rfl rfl ?_
                      have hr23 := hw21
                      refine lv_if_eq (tgt := 126) hx hb d_Mo_answer_119 (by decide) (fun hb24 => ?_) (fun hb24 => ?_)
                      · skip
                        refine lv_iconst (v := 0) hx hb d_Mo_answer_126 (by decide) ?_
                        refine lv_istore (lv' := [(9, .int 0), (7, .long (z7 &&& ((1 <<< (Int32.toInt64 (nI j12) &&& 63)) ^^^ (-1)))), (10, .int (hasv z7 j12)), (0, .ref m0), (1, .int x), (2, .long y2), (4, .int (nI okn)), (6, .int (nI j12))]) hx hb d_Mo_answer_127 hl (by decide) rfl (fun ls hln => ?_)
                        replace hl : lv_has ls 11 [(9, .int 0), (7, .long (z7 &&& ((1 <<< (Int32.toInt64 (nI j12) &&& 63)) ^^^ (-1)))), (10, .int (hasv z7 j12)), (0, .ref m0), (1, .int x), (2, .long y2), (4, .int (nI okn)), (6, .int (nI j12))] := hln
                        clear hln
                        refine lv_iload hx hb d_Mo_answer_129 (lv_at hl 0 rfl) ?_
                        refine lv_if_eq (tgt := 139) hx hb d_Mo_answer_131 (by decide) (fun _ => ?_) (fun h => (h (by decide)).elim)
                        refine lv_iload hx hb d_Mo_answer_139 (lv_at hl 7 rfl) ?_
                        refine lv_iconst (v := 1) hx hb d_Mo_answer_141 (by decide) ?_
                        refine lv_isub hx hb d_Mo_answer_142 ?_
                        obtain ⟨kv25, kv25_e, kv25_k⟩ := KvI.dec2 (j := j12) j12_l
                        refine ci_i (y := kv25) kv25_e ?_
                        refine lv_istore (lv' := [(6, .int kv25), (9, .int 0), (7, .long (z7 &&& ((1 <<< (Int32.toInt64 (nI j12) &&& 63)) ^^^ (-1)))), (10, .int (hasv z7 j12)), (0, .ref m0), (1, .int x), (2, .long y2), (4, .int (nI okn))]) hx hb d_Mo_answer_143 hl (by decide) rfl (fun ls hln => ?_)
                        replace hl : lv_has ls 11 [(6, .int kv25), (9, .int 0), (7, .long (z7 &&& ((1 <<< (Int32.toInt64 (nI j12) &&& 63)) ^^^ (-1)))), (10, .int (hasv z7 j12)), (0, .ref m0), (1, .int x), (2, .long y2), (4, .int (nI okn))] := hln
                        clear hln
                        refine lv_goto (tgt := 74) hx hb d_Mo_answer_145 (by decide) ?_
                        exact hloop9_ih j12 kv25 (z7 &&& ((1 <<< (Int32.toInt64 (nI j12) &&& 63)) ^^^ (-1))) 0 kv25_k (by first | assumption | omega | trivial | exact AllLt.zero | exact AllN.zero | exact AllM.zero | exact Or.inl rfl | exact Or.inr rfl) (clr_ag hag (by omega) j12_g) (Or.inl rfl) _ _ ls (lv_sub hl [4, 5, 6, 7, 0, 2, 1] rfl) (hP.sub [5, 6, 7, 0, 4, 1, 2, 3] rfl) (hD.sub [5, 6, 7, 0, 4, 1, 2, 3] (by decide) rfl) hS (by omega)
                      · skip
                        refine lv_iconst (v := 1) hx hb d_Mo_answer_122 (by decide) ?_
                        refine lv_goto (tgt := 127) hx hb d_Mo_answer_123 (by decide) ?_
                        refine lv_istore (lv' := [(9, .int 1), (7, .long (z7 &&& ((1 <<< (Int32.toInt64 (nI j12) &&& 63)) ^^^ (-1)))), (10, .int (hasv z7 j12)), (0, .ref m0), (1, .int x), (2, .long y2), (4, .int (nI okn)), (6, .int (nI j12))]) hx hb d_Mo_answer_127 hl (by decide) rfl (fun ls hln => ?_)
                        replace hl : lv_has ls 11 [(9, .int 1), (7, .long (z7 &&& ((1 <<< (Int32.toInt64 (nI j12) &&& 63)) ^^^ (-1)))), (10, .int (hasv z7 j12)), (0, .ref m0), (1, .int x), (2, .long y2), (4, .int (nI okn)), (6, .int (nI j12))] := hln
                        clear hln
                        refine lv_iload hx hb d_Mo_answer_129 (lv_at hl 0 rfl) ?_
                        refine lv_if_eq (tgt := 139) hx hb d_Mo_answer_131 (by decide) (fun h => absurd h (by decide)) (fun _ => ?_)
                        refine lv_iload hx hb d_Mo_answer_134 (lv_at hl 7 rfl) ?_
                        refine lv_goto (tgt := 143) hx hb d_Mo_answer_136 (by decide) ?_
                        refine lv_istore (lv' := [(6, .int (nI j12)), (9, .int 1), (7, .long (z7 &&& ((1 <<< (Int32.toInt64 (nI j12) &&& 63)) ^^^ (-1)))), (10, .int (hasv z7 j12)), (0, .ref m0), (1, .int x), (2, .long y2), (4, .int (nI okn))]) hx hb d_Mo_answer_143 hl (by decide) rfl (fun ls hln => ?_)
                        replace hl : lv_has ls 11 [(6, .int (nI j12)), (9, .int 1), (7, .long (z7 &&& ((1 <<< (Int32.toInt64 (nI j12) &&& 63)) ^^^ (-1)))), (10, .int (hasv z7 j12)), (0, .ref m0), (1, .int x), (2, .long y2), (4, .int (nI okn))] := hln
                        clear hln
                        refine lv_goto (tgt := 74) hx hb d_Mo_answer_145 (by decide) ?_
                        exact hloop9_ih (j12 + 1) (nI j12) (z7 &&& ((1 <<< (Int32.toInt64 (nI j12) &&& 63)) ^^^ (-1))) 1 (KvI.of' (by omega)) (by first | assumption | omega | trivial | exact AllLt.zero | exact AllN.zero | exact AllM.zero | exact Or.inl rfl | exact Or.inr rfl) (clr_ag1' hag (by omega) j12_g (hasv_0 hb18)) (Or.inr ⟨rfl, j12, rfl, (hag j12 (by omega)).symm.trans (hasv_0 hb18)⟩) _ _ ls (lv_sub hl [4, 5, 6, 7, 0, 2, 1] rfl) (hP.sub [5, 6, 7, 0, 4, 1, 2, 3] rfl) (hD.sub [5, 6, 7, 0, 4, 1, 2, 3] (by decide) rfl) hS (by omega)
            exact hloop9 ((2 * mev + (1 - 0)) + 1) mev kv0 y2 0 kv0_k (by first | assumption | omega | trivial | exact AllLt.zero | exact AllN.zero | exact AllM.zero | exact Or.inl rfl | exact Or.inr rfl) (fun i _ => rfl) (Or.inl rfl) _ _ ls (lv_sub hl [4, 5, 6, 7, 2, 1, 0] rfl) hP hD hS (Nat.lt_succ_self _)
          · skip
            refine lv_aload_n hx hb d_Mo_answer_45 rfl (lv_at hl 1 rfl) ?_
            refine lv_iconst (v := 0) hx hb d_Mo_answer_46 (by decide) ?_
            refine va_put (D := (dC, dI)) (ci := 9) (v := .int 0) (ty := .int) (C := "NetUnfolderModel") (T := T_Mo) (N := 28) hx hb ht in_Mo ty_Mo ok_Mo nm_Mo hown hK hP hD hS 4 rfl rfl 26 (by decide) (ht _ wd_4_26) (fun _ h9 => h9) rfl (by decide +kernel) rfl rfl (Nat.le_of_ble_eq_true rfl) d_Mo_answer_47 (fun H26 locs hPn hDn hSn => ?_)
            replace hP : va_P (dC, dI) clA [(m8, .inl (cI, 30, .inl gca)), (m9, .inl (cL, 30, .inr (.inl gtn))), (m13, .inl (cZ, 30, .inl gcu)), (m17, .inl (cI, 62, .inl gwy)), (m0, .inr (9, [.int mth, .int (nI mt), .ref m1, .ref m2, .int mf, .int (nI mcd), .ref m3, .ref m4, .ref m5, .ref m6, .int (nI mev), .ref m7, .ref m8, .ref m9, .ref m10, .ref m11, .ref m12, .ref m13, .int mwh, .int mps, .ref m14, .ref m15, .long mlr, .int (nI mlt), .int (nI mlm), .ref m16, .int 0, .ref m17])), (m1, .inl (cI, 8, .inl mp)), (m2, .inl (cI, 8, .inl mq)), (m7, .inl (cI, 30, .inl gtr))] H26 := hPn
            replace hD : va_D A [(m8, .inl (cI, 30, .inl gca)), (m9, .inl (cL, 30, .inr (.inl gtn))), (m13, .inl (cZ, 30, .inl gcu)), (m17, .inl (cI, 62, .inl gwy)), (m0, .inr (9, [.int mth, .int (nI mt), .ref m1, .ref m2, .int mf, .int (nI mcd), .ref m3, .ref m4, .ref m5, .ref m6, .int (nI mev), .ref m7, .ref m8, .ref m9, .ref m10, .ref m11, .ref m12, .ref m13, .int mwh, .int mps, .ref m14, .ref m15, .long mlr, .int (nI mlt), .int (nI mlm), .ref m16, .int 0, .ref m17])), (m1, .inl (cI, 8, .inl mp)), (m2, .inl (cI, 8, .inl mq)), (m7, .inl (cI, 30, .inl gtr))] := hDn
            replace hS := hSn
            clear hPn hDn hSn
            refine lv_aload_n hx hb d_Mo_answer_50 rfl (lv_at hl 1 rfl) ?_
            refine lv_lload_n hx hb d_Mo_answer_51 rfl (lv_at hl 3 rfl) ?_
            have hPc := hP.sub (ws' := [(m0, .inr (9, [.int mth, .int (nI mt), .ref m1, .ref m2, .int mf, .int (nI mcd), .ref m3, .ref m4, .ref m5, .ref m6, .int (nI mev), .ref m7, .ref m8, .ref m9, .ref m10, .ref m11, .ref m12, .ref m13, .int mwh, .int mps, .ref m14, .ref m15, .long mlr, .int (nI mlt), .int (nI mlm), .ref m16, .int 0, .ref m17])), (m7, .inl (cI, 30, .inl gtr)), (m17, .inl (cI, 62, .inl gwy))]) [4, 7, 3] rfl
            have hDc := hD.sub (ws' := [(m0, .inr (9, [.int mth, .int (nI mt), .ref m1, .ref m2, .int mf, .int (nI mcd), .ref m3, .ref m4, .ref m5, .ref m6, .int (nI mev), .ref m7, .ref m8, .ref m9, .ref m10, .ref m11, .ref m12, .ref m13, .int mwh, .int mps, .ref m14, .ref m15, .long mlr, .int (nI mlt), .int (nI mlm), .ref m16, .int 0, .ref m17])), (m7, .inl (cI, 30, .inl gtr)), (m17, .inl (cI, 62, .inl gwy))]) [4, 7, 3] (by decide) rfl
            have hFc := va_free (wc := [(m0, .inr (9, [.int mth, .int (nI mt), .ref m1, .ref m2, .int mf, .int (nI mcd), .ref m3, .ref m4, .ref m5, .ref m6, .int (nI mev), .ref m7, .ref m8, .ref m9, .ref m10, .ref m11, .ref m12, .ref m13, .int mwh, .int mps, .ref m14, .ref m15, .long mlr, .int (nI mlt), .int (nI mlm), .ref m16, .int 0, .ref m17])), (m7, .inl (cI, 30, .inl gtr)), (m17, .inl (cI, 62, .inl gwy))]) hD hS hA [4, 7, 3] rfl
            refine va_callv (va_runV (C := "NetUnfolderModel") (As := [.long y2]) (rest := []) ⟨hx, hb, hml, hown, ht⟩ (c_Mo_addWay l dC dI cI cL cZ _ m0 m1 m2 m3 m4 m5 m6 m7 m8 m9 m10 m11 m12 m13 m14 m15 m16 m17 mth mt mf mcd mev mwh mps mlr mlt mlm gtr gwy y2 0 (by first | assumption | omega | trivial | exact AllLt.zero | exact AllN.zero | exact AllM.zero | exact Or.inl rfl | exact Or.inr rfl) (by first | assumption | omega | trivial | exact AllLt.zero | exact AllN.zero | exact AllM.zero | exact Or.inl rfl | exact Or.inr rfl) (by first | assumption | omega | trivial | exact AllLt.zero | exact AllN.zero | exact AllM.zero | exact Or.inl rfl | exact Or.inr rfl) (by first | assumption | omega | trivial | exact AllLt.zero | exact AllN.zero | exact AllM.zero | exact Or.inl rfl | exact Or.inr rfl)) (cwV 1 ht (good_V wd_4_173 wd_4_175 ws_Mo_addWay wd_1_10 wd_4_176) rfl rfl rfl (by decide +kernel) ⟨Nat.le_of_ble_eq_true rfl, Nat.le_of_ble_eq_true rfl⟩) ⟨fun a U g mk q => by obtain ⟨q0, q1, qP, qK, qD, qN⟩ := q; exact ⟨q0, q1, qP, va_K.moved (u := U) (U := U.calling g mk a) (Vm.Alike.refl U.vm) qK, qD, NwA.same (u := U) rfl qN⟩, (va_recv (q0 := 4) (ci := 9) hK hP rfl rfl), fun U hU hW => ⟨rfl, by rw [hU], by rw [hU]; exact hPc, va_K.moved hW.alike hK, hDc.weaken (fun _ _ _ _ => trivial), NwA.warm hW hN⟩⟩ rfl rfl hl.1 rfl (lv_room (Nat.le_of_ble_eq_true rfl)) d_Mo_answer_52 ⟨Nat.le_of_ble_eq_true rfl, Nat.le_of_ble_eq_true rfl⟩) hS (fun q _ h => hFc q h) hFc (fun u9 t9 H27 locs ht9 hvm hw28 hB hz1 hk1 hSn => ?_)
            obtain ⟨ln130, gwy131, hf32, hf33, hP1, hD1⟩ := hB
            rw [ht9] at hP1
            obtain ⟨hPn, hDn⟩ := va_join (wr := [(m8, .inl (cI, 30, .inl gca)), (m9, .inl (cL, 30, .inr (.inl gtn))), (m13, .inl (cZ, 30, .inl gcu)), (m1, .inl (cI, 8, .inl mp)), (m2, .inl (cI, 8, .inl mq))]) (w1 := [(m0, .inr (9, [.int mth, .int (nI mt), .ref m1, .ref m2, .int mf, .int (nI mcd), .ref m3, .ref m4, .ref m5, .ref m6, .int (nI mev), .ref m7, .ref m8, .ref m9, .ref m10, .ref m11, .ref m12, .ref m13, .int mwh, .int mps, .ref m14, .ref m15, .long mlr, .int (nI mlt), .int (nI mlm), .ref m16, .int (nI ln130), .ref m17])), (m7, .inl (cI, 30, .inl gtr)), (m17, .inl (cI, 62, .inl gwy131))]) hP hD [4, 7, 3] [0, 1, 2, 5, 6] rfl rfl (by decide) (by decide) hk1 hFc hP1 hD1
            replace hP : va_P (dC, dI) clA [(m8, .inl (cI, 30, .inl gca)), (m9, .inl (cL, 30, .inr (.inl gtn))), (m13, .inl (cZ, 30, .inl gcu)), (m1, .inl (cI, 8, .inl mp)), (m2, .inl (cI, 8, .inl mq)), (m0, .inr (9, [.int mth, .int (nI mt), .ref m1, .ref m2, .int mf, .int (nI mcd), .ref m3, .ref m4, .ref m5, .ref m6, .int (nI mev), .ref m7, .ref m8, .ref m9, .ref m10, .ref m11, .ref m12, .ref m13, .int mwh, .int mps, .ref m14, .ref m15, .long mlr, .int (nI mlt), .int (nI mlm), .ref m16, .int (nI ln130), .ref m17])), (m7, .inl (cI, 30, .inl gtr)), (m17, .inl (cI, 62, .inl gwy131))] H27 := hPn
            replace hD : va_D A [(m8, .inl (cI, 30, .inl gca)), (m9, .inl (cL, 30, .inr (.inl gtn))), (m13, .inl (cZ, 30, .inl gcu)), (m1, .inl (cI, 8, .inl mp)), (m2, .inl (cI, 8, .inl mq)), (m0, .inr (9, [.int mth, .int (nI mt), .ref m1, .ref m2, .int mf, .int (nI mcd), .ref m3, .ref m4, .ref m5, .ref m6, .int (nI mev), .ref m7, .ref m8, .ref m9, .ref m10, .ref m11, .ref m12, .ref m13, .int mwh, .int mps, .ref m14, .ref m15, .long mlr, .int (nI mlt), .int (nI mlm), .ref m16, .int (nI ln130), .ref m17])), (m7, .inl (cI, 30, .inl gtr)), (m17, .inl (cI, 62, .inl gwy131))] := hDn
            replace hS := hSn
            clear hPn hDn hSn
            clear hPc hDc hFc hP1 hD1 hk1 hz1 ht9 hvm
            refine W.cs (cells' := 0) (slots' := 0) rfl rfl ?_
            refine lv_aload_n hx hb d_Mo_answer_55 rfl (lv_at hl 1 rfl) ?_
            refine va_get (D := (dC, dI)) (ci := 9) (v := .int (nI ln130)) (C := "NetUnfolderModel") (T := T_Mo) (N := 28) hx hb ht in_Mo hown hK hP 5 rfl rfl 26 (by decide) (ht _ wd_4_26) (fun _ h9 => h9) rfl d_Mo_answer_56 ?_
            have hP9 := hP.sub (ws' := [(m0, .inr (9, [.int mth, .int (nI mt), .ref m1, .ref m2, .int mf, .int (nI mcd), .ref m3, .ref m4, .ref m5, .ref m6, .int (nI mev), .ref m7, .ref m8, .ref m9, .ref m10, .ref m11, .ref m12, .ref m13, .int mwh, .int mps, .ref m14, .ref m15, .long mlr, .int (nI mlt), .int (nI mlm), .ref m16, .int (nI ln130), .ref m17])), (m1, .inl (cI, 8, .inl mp)), (m2, .inl (cI, 8, .inl mq)), (m7, .inl (cI, 30, .inl gtr)), (m8, .inl (cI, 30, .inl gca)), (m9, .inl (cL, 30, .inr (.inl gtn))), (m13, .inl (cZ, 30, .inl gcu)), (m17, .inl (cI, 62, .inl gwy131))]) [5, 3, 4, 6, 0, 1, 2, 7] rfl
            have hD9 := hD.sub (ws' := [(m0, .inr (9, [.int mth, .int (nI mt), .ref m1, .ref m2, .int mf, .int (nI mcd), .ref m3, .ref m4, .ref m5, .ref m6, .int (nI mev), .ref m7, .ref m8, .ref m9, .ref m10, .ref m11, .ref m12, .ref m13, .int mwh, .int mps, .ref m14, .ref m15, .long mlr, .int (nI mlt), .int (nI mlm), .ref m16, .int (nI ln130), .ref m17])), (m1, .inl (cI, 8, .inl mp)), (m2, .inl (cI, 8, .inl mq)), (m7, .inl (cI, 30, .inl gtr)), (m8, .inl (cI, 30, .inl gca)), (m9, .inl (cL, 30, .inr (.inl gtn))), (m13, .inl (cZ, 30, .inl gcu)), (m17, .inl (cI, 62, .inl gwy131))]) [5, 3, 4, 6, 0, 1, 2, 7] (by decide) rfl
            subst hQ
            exact W.iret (v := nI ln130) hx hb hr (fun t9 ht9 hW => ⟨⟨nI ln130, (), rfl, trivial, (nI ln130), gwy131, (Or.inr ⟨_, by omega, rfl⟩), (by first | assumption | omega | trivial | exact AllLt.zero | exact AllN.zero | exact AllM.zero | exact Or.inl rfl | exact Or.inr rfl), by rw [ht9]; exact hP9, hD9⟩, hS.F ht9⟩) hS.2.2 d_Mo_answer_59
        · skip
          refine lv_aload_n hx hb d_Mo_answer_27 rfl (lv_at hl 1 rfl) ?_
          refine lv_iload hx hb d_Mo_answer_28 (lv_at hl 0 rfl) ?_
          have hPc := hP.sub (ws' := [(m0, .inr (9, [.int mth, .int (nI mt), .ref m1, .ref m2, .int mf, .int (nI mcd), .ref m3, .ref m4, .ref m5, .ref m6, .int (nI mev), .ref m7, .ref m8, .ref m9, .ref m10, .ref m11, .ref m12, .ref m13, .int mwh, .int mps, .ref m14, .ref m15, .long mlr, .int (nI mlt), .int (nI mlm), .ref m16, .int (-1), .ref m17])), (m1, .inl (cI, 8, .inl mp))]) [4, 5] rfl
          have hDc := hD.sub (ws' := [(m0, .inr (9, [.int mth, .int (nI mt), .ref m1, .ref m2, .int mf, .int (nI mcd), .ref m3, .ref m4, .ref m5, .ref m6, .int (nI mev), .ref m7, .ref m8, .ref m9, .ref m10, .ref m11, .ref m12, .ref m13, .int mwh, .int mps, .ref m14, .ref m15, .long mlr, .int (nI mlt), .int (nI mlm), .ref m16, .int (-1), .ref m17])), (m1, .inl (cI, 8, .inl mp))]) [4, 5] (by decide) rfl
          have hFc := va_free (wc := [(m0, .inr (9, [.int mth, .int (nI mt), .ref m1, .ref m2, .int mf, .int (nI mcd), .ref m3, .ref m4, .ref m5, .ref m6, .int (nI mev), .ref m7, .ref m8, .ref m9, .ref m10, .ref m11, .ref m12, .ref m13, .int mwh, .int mps, .ref m14, .ref m15, .long mlr, .int (nI mlt), .int (nI mlm), .ref m16, .int (-1), .ref m17])), (m1, .inl (cI, 8, .inl mp))]) hD hS hA [4, 5] rfl
          refine va_calli (va_runV (C := "NetUnfolderModel") (As := [.int r6]) (rest := []) ⟨hx, hb, hml, hown, ht⟩ (c_Mo_stuck l dC dI cI cL cZ _ m0 m1 m2 m3 m4 m5 m6 m7 m8 m9 m10 m11 m12 m13 m14 m15 m16 m17 mth mt mf mcd mev mwh mps mlr mlt mlm (-1) mp r6 (by first | assumption | omega | trivial | exact AllLt.zero | exact AllN.zero | exact AllM.zero | exact Or.inl rfl | exact Or.inr rfl)) (cwV 1 ht (good_V wd_4_196 wd_4_198 ws_Mo_stuck wd_1_10 wd_4_199) rfl rfl rfl (by decide +kernel) ⟨Nat.le_of_ble_eq_true rfl, Nat.le_of_ble_eq_true rfl⟩) ⟨fun a U g mk q => by obtain ⟨q0, q1, qP, qK, qD, qN⟩ := q; exact ⟨q0, q1, qP, va_K.moved (u := U) (U := U.calling g mk a) (Vm.Alike.refl U.vm) qK, qD, NwA.same (u := U) rfl qN⟩, (va_recv (q0 := 4) (ci := 9) hK hP rfl rfl), fun U hU hW => ⟨rfl, by rw [hU], by rw [hU]; exact hPc, va_K.moved hW.alike hK, hDc.weaken (fun _ _ _ _ => trivial), NwA.warm hW hN⟩⟩ rfl rfl hl.1 rfl (lv_room (Nat.le_of_ble_eq_true rfl)) d_Mo_answer_30 ⟨Nat.le_of_ble_eq_true rfl, Nat.le_of_ble_eq_true rfl⟩) hS (fun q _ h => hFc q h) hFc (fun r36 u9 t9 H34 locs ht9 hvm hw35 hB hz1 hk1 hSn => ?_)
          obtain ⟨hP1, hD1⟩ := hB
          rw [ht9] at hP1
          obtain ⟨hPn, hDn⟩ := va_join (wr := [(m8, .inl (cI, 30, .inl gca)), (m9, .inl (cL, 30, .inr (.inl gtn))), (m13, .inl (cZ, 30, .inl gcu)), (m17, .inl (cI, 62, .inl gwy)), (m2, .inl (cI, 8, .inl mq)), (m7, .inl (cI, 30, .inl gtr))]) (w1 := [(m0, .inr (9, [.int mth, .int (nI mt), .ref m1, .ref m2, .int mf, .int (nI mcd), .ref m3, .ref m4, .ref m5, .ref m6, .int (nI mev), .ref m7, .ref m8, .ref m9, .ref m10, .ref m11, .ref m12, .ref m13, .int mwh, .int mps, .ref m14, .ref m15, .long mlr, .int (nI mlt), .int (nI mlm), .ref m16, .int (-1), .ref m17])), (m1, .inl (cI, 8, .inl mp))]) hP hD [4, 5] [0, 1, 2, 3, 6, 7] rfl rfl (by decide) (by decide) hk1 hFc hP1 hD1
          replace hP : va_P (dC, dI) clA [(m8, .inl (cI, 30, .inl gca)), (m9, .inl (cL, 30, .inr (.inl gtn))), (m13, .inl (cZ, 30, .inl gcu)), (m17, .inl (cI, 62, .inl gwy)), (m2, .inl (cI, 8, .inl mq)), (m7, .inl (cI, 30, .inl gtr)), (m0, .inr (9, [.int mth, .int (nI mt), .ref m1, .ref m2, .int mf, .int (nI mcd), .ref m3, .ref m4, .ref m5, .ref m6, .int (nI mev), .ref m7, .ref m8, .ref m9, .ref m10, .ref m11, .ref m12, .ref m13, .int mwh, .int mps, .ref m14, .ref m15, .long mlr, .int (nI mlt), .int (nI mlm), .ref m16, .int (-1), .ref m17])), (m1, .inl (cI, 8, .inl mp))] H34 := hPn
          replace hD : va_D A [(m8, .inl (cI, 30, .inl gca)), (m9, .inl (cL, 30, .inr (.inl gtn))), (m13, .inl (cZ, 30, .inl gcu)), (m17, .inl (cI, 62, .inl gwy)), (m2, .inl (cI, 8, .inl mq)), (m7, .inl (cI, 30, .inl gtr)), (m0, .inr (9, [.int mth, .int (nI mt), .ref m1, .ref m2, .int mf, .int (nI mcd), .ref m3, .ref m4, .ref m5, .ref m6, .int (nI mev), .ref m7, .ref m8, .ref m9, .ref m10, .ref m11, .ref m12, .ref m13, .int mwh, .int mps, .ref m14, .ref m15, .long mlr, .int (nI mlt), .int (nI mlm), .ref m16, .int (-1), .ref m17])), (m1, .inl (cI, 8, .inl mp))] := hDn
          replace hS := hSn
          clear hPn hDn hSn
          clear hPc hDc hFc hP1 hD1 hk1 hz1 ht9 hvm
          refine W.cs (cells' := 0) (slots' := 0) rfl rfl ?_
          have hr37 := hw35
          refine lv_if_eq (tgt := 60) hx hb d_Mo_answer_33 (by decide) (fun hb38 => ?_) (fun hb38 => ?_)
          · skip
            refine lv_aload_n hx hb d_Mo_answer_60 rfl (lv_at hl 1 rfl) ?_
            refine va_get (D := (dC, dI)) (ci := 9) (v := .int (nI mev)) (C := "NetUnfolderModel") (T := T_Mo) (N := 28) hx hb ht in_Mo hown hK hP 6 rfl rfl 10 (by decide) (ht _ wd_4_10) (fun _ h9 => h9) rfl d_Mo_answer_61 ?_
            refine lv_iconst (v := 1) hx hb d_Mo_answer_64 (by decide) ?_
            refine lv_isub hx hb d_Mo_answer_65 ?_
            obtain ⟨kv0, kv0_e, kv0_k⟩ := KvI.ini (n := mev) hev
            refine ci_i (y := kv0) kv0_e ?_
            refine lv_istore (lv' := [(6, .int kv0), (5, .int r6), (0, .ref m0), (1, .int x), (2, .long y2), (4, .int (nI okn))]) hx hb d_Mo_answer_66 hl (by decide) rfl (fun ls hln => ?_)
            replace hl : lv_has ls 11 [(6, .int kv0), (5, .int r6), (0, .ref m0), (1, .int x), (2, .long y2), (4, .int (nI okn))] := hln
            clear hln
            refine lv_lload_n hx hb d_Mo_answer_68 rfl (lv_at hl 4 rfl) ?_
            refine lv_lstore (lv' := [(7, .long y2), (6, .int kv0), (5, .int r6), (0, .ref m0), (1, .int x), (2, .long y2), (4, .int (nI okn))]) hx hb d_Mo_answer_69 hl (by decide) rfl (fun ls hln => ?_)
            replace hl : lv_has ls 11 [(7, .long y2), (6, .int kv0), (5, .int r6), (0, .ref m0), (1, .int x), (2, .long y2), (4, .int (nI okn))] := hln
            clear hln
            refine lv_iconst (v := 0) hx hb d_Mo_answer_71 (by decide) ?_
            refine lv_istore (lv' := [(9, .int 0), (7, .long y2), (6, .int kv0), (5, .int r6), (0, .ref m0), (1, .int x), (2, .long y2), (4, .int (nI okn))]) hx hb d_Mo_answer_72 hl (by decide) rfl (fun ls hln => ?_)
            replace hl : lv_has ls 11 [(9, .int 0), (7, .long y2), (6, .int kv0), (5, .int r6), (0, .ref m0), (1, .int x), (2, .long y2), (4, .int (nI okn))] := hln
            clear hln
            have hloop39 : ∀ (n74 : Nat) (g : Nat) (kv : Int32) (z7 : Int64) (fnd : Nat) (hkv : KvI g kv) (hg : g ≤ mev) (hag : ∀ i, i < g → z7.toBitVec.getLsbD i = y2.toBitVec.getLsbD i) (hfn : fnd = 0 ∨ (fnd = 1 ∧ ∃ j, g = j + 1 ∧ y2.toBitVec.getLsbD j = false)) (H : Heap) (locs : List Loc) (ls : Array Slot) (hl : lv_has ls 11 [(0, .ref m0), (1, .int x), (2, .long y2), (4, .int (nI okn)), (6, .int kv), (7, .long z7), (9, .int (nI fnd))]) (hP : va_P (dC, dI) clA [(m8, .inl (cI, 30, .inl gca)), (m9, .inl (cL, 30, .inr (.inl gtn))), (m13, .inl (cZ, 30, .inl gcu)), (m17, .inl (cI, 62, .inl gwy)), (m2, .inl (cI, 8, .inl mq)), (m7, .inl (cI, 30, .inl gtr)), (m0, .inr (9, [.int mth, .int (nI mt), .ref m1, .ref m2, .int mf, .int (nI mcd), .ref m3, .ref m4, .ref m5, .ref m6, .int (nI mev), .ref m7, .ref m8, .ref m9, .ref m10, .ref m11, .ref m12, .ref m13, .int mwh, .int mps, .ref m14, .ref m15, .long mlr, .int (nI mlt), .int (nI mlm), .ref m16, .int (-1), .ref m17])), (m1, .inl (cI, 8, .inl mp))] H) (hD : va_D A [(m8, .inl (cI, 30, .inl gca)), (m9, .inl (cL, 30, .inr (.inl gtn))), (m13, .inl (cZ, 30, .inl gcu)), (m17, .inl (cI, 62, .inl gwy)), (m2, .inl (cI, 8, .inl mq)), (m7, .inl (cI, 30, .inl gtr)), (m0, .inr (9, [.int mth, .int (nI mt), .ref m1, .ref m2, .int mf, .int (nI mcd), .ref m3, .ref m4, .ref m5, .ref m6, .int (nI mev), .ref m7, .ref m8, .ref m9, .ref m10, .ref m11, .ref m12, .ref m13, .int mwh, .int mps, .ref m14, .ref m15, .long mlr, .int (nI mlt), .int (nI mlm), .ref m16, .int (-1), .ref m17])), (m1, .inl (cI, 8, .inl mp))]) (hS : va_S A s.heap H locs) (hm74 : 2 * g + (1 - fnd) < n74), W p l e (headSpec (Cond.code y_Mo_answer prog_11_method_32_code 11 (some .int) :: wsA) { frames := 3, cells := 0, slots := 0, locals := 72 }).room s m ([.ref m0, .int x] : List Value).toArray below meth c H locs 0 0 Q (F0 m 74 ls []) := by
              clear hl hP hD hS
              intro n74
              induction n74 with
              | zero => intro g kv z7 fnd hkv hg hag hfn H locs ls hl hP hD hS hm; exact absurd hm (Nat.not_lt_zero _)
              | succ n74 hloop39_ih =>
                intro g kv z7 fnd hkv hg hag hfn H locs ls hl hP hD hS hm74
                refine lv_iload hx hb d_Mo_answer_74 (lv_at hl 4 rfl) ?_
                refine lv_if_lt (tgt := 148) hx hb d_Mo_answer_76 (by decide) (fun hb40 => ?_) (fun hb40 => ?_)
                · skip
                  refine lv_iload hx hb d_Mo_answer_148 (lv_at hl 6 rfl) ?_
                  refine lv_istore (lv' := [(4, .int (nI fnd)), (0, .ref m0), (1, .int x), (2, .long y2), (6, .int kv), (7, .long z7), (9, .int (nI fnd))]) hx hb d_Mo_answer_150 hl (by decide) rfl (fun ls hln => ?_)
                  replace hl : lv_has ls 11 [(4, .int (nI fnd)), (0, .ref m0), (1, .int x), (2, .long y2), (6, .int kv), (7, .long z7), (9, .int (nI fnd))] := hln
                  clear hln
                  refine lv_iload hx hb d_Mo_answer_152 (lv_at hl 6 rfl) ?_
                  refine lv_if_eq (tgt := 167) hx hb d_Mo_answer_154 (by decide) (fun hb41 => ?_) (fun hb41 => ?_)
                  · skip
                    replace hb41 := cv_eq (a := fnd) (b := 0) (by omega) (by omega) hb41
                    refine lv_lconst (v := 0) hx hb d_Mo_answer_167 (by decide) ?_
                    refine lv_lstore_n (lv' := [(2, .long 0), (4, .int (nI fnd)), (0, .ref m0), (1, .int x), (6, .int kv), (7, .long z7), (9, .int (nI fnd))]) hx hb d_Mo_answer_168 rfl hl (by decide) rfl (fun ls hln => ?_)
                    replace hl : lv_has ls 11 [(2, .long 0), (4, .int (nI fnd)), (0, .ref m0), (1, .int x), (6, .int kv), (7, .long z7), (9, .int (nI fnd))] := hln
                    clear hln
                    refine lv_goto (tgt := 10) hx hb d_Mo_answer_169 (by decide) ?_
                    exact hloop2_ih fnd 0 (fn_le hfn) _ _ ls (lv_sub hl [2, 3, 0, 1] rfl) (hP.sub [6, 7, 4, 5, 0, 1, 2, 3] rfl) (hD.sub [6, 7, 4, 5, 0, 1, 2, 3] (by decide) rfl) hS (ans_m0 (by omega) hb41 hm10)
                  · skip
                    replace hb41 := cv_ne (a := fnd) (b := 0) (by omega) (by omega) hb41
                    refine lv_lload hx hb d_Mo_answer_157 (lv_at hl 5 rfl) ?_
                    refine lv_lconst (v := 1) hx hb d_Mo_answer_159 (by decide) ?_
                    refine lv_iload hx hb d_Mo_answer_160 (lv_at hl 4 rfl) ?_
                    refine lv_lshl (v := 1 <<< (Int32.toInt64 kv &&& 63)) hx hb d_Mo_answer_162 rfl ?_
                    refine lv_lor hx hb d_Mo_answer_163 ?_
                    refine lv_goto (tgt := 168) hx hb d_Mo_answer_164 (by decide) ?_
                    refine lv_lstore_n (lv' := [(2, .long (z7 ||| (1 <<< (Int32.toInt64 kv &&& 63)))), (4, .int (nI fnd)), (0, .ref m0), (1, .int x), (6, .int kv), (7, .long z7), (9, .int (nI fnd))]) hx hb d_Mo_answer_168 rfl hl (by decide) rfl (fun ls hln => ?_)
                    replace hl : lv_has ls 11 [(2, .long (z7 ||| (1 <<< (Int32.toInt64 kv &&& 63)))), (4, .int (nI fnd)), (0, .ref m0), (1, .int x), (6, .int kv), (7, .long z7), (9, .int (nI fnd))] := hln
                    clear hln
                    refine lv_goto (tgt := 10) hx hb d_Mo_answer_169 (by decide) ?_
                    exact hloop2_ih fnd (z7 ||| (1 <<< (Int32.toInt64 kv &&& 63))) (fn_le hfn) _ _ ls (lv_sub hl [2, 3, 0, 1] rfl) (hP.sub [6, 7, 4, 5, 0, 1, 2, 3] rfl) (hD.sub [6, 7, 4, 5, 0, 1, 2, 3] (by decide) rfl) hS (ans_ms (by omega) hok (fn_le hfn) (ans_lt hg hev hkv hag hfn hb41) hm10)
                · skip
                  obtain ⟨j42, j42_l, j42_g, rfl⟩ := KvI.nat hkv hb40
                  refine lv_iload hx hb d_Mo_answer_79 (lv_at hl 6 rfl) ?_
                  refine lv_if_ne (tgt := 148) hx hb d_Mo_answer_81 (by decide) (fun hb43 => ?_) (fun hb43 => ?_)
                  · skip
                    replace hb43 := cv_ne (a := fnd) (b := 0) (by omega) (by omega) hb43
                    refine lv_iload hx hb d_Mo_answer_148 (lv_at hl 6 rfl) ?_
                    refine lv_istore (lv' := [(4, .int (nI fnd)), (0, .ref m0), (1, .int x), (2, .long y2), (6, .int (nI j42)), (7, .long z7), (9, .int (nI fnd))]) hx hb d_Mo_answer_150 hl (by decide) rfl (fun ls hln => ?_)
                    replace hl : lv_has ls 11 [(4, .int (nI fnd)), (0, .ref m0), (1, .int x), (2, .long y2), (6, .int (nI j42)), (7, .long z7), (9, .int (nI fnd))] := hln
                    clear hln
                    refine lv_iload hx hb d_Mo_answer_152 (lv_at hl 6 rfl) ?_
                    refine lv_if_eq (tgt := 167) hx hb d_Mo_answer_154 (by decide) (fun hb44 => ?_) (fun hb44 => ?_)
                    · skip
                      replace hb44 := cv_eq (a := fnd) (b := 0) (by omega) (by omega) hb44
                      refine lv_lconst (v := 0) hx hb d_Mo_answer_167 (by decide) ?_
                      refine lv_lstore_n (lv' := [(2, .long 0), (4, .int (nI fnd)), (0, .ref m0), (1, .int x), (6, .int (nI j42)), (7, .long z7), (9, .int (nI fnd))]) hx hb d_Mo_answer_168 rfl hl (by decide) rfl (fun ls hln => ?_)
                      replace hl : lv_has ls 11 [(2, .long 0), (4, .int (nI fnd)), (0, .ref m0), (1, .int x), (6, .int (nI j42)), (7, .long z7), (9, .int (nI fnd))] := hln
                      clear hln
                      refine lv_goto (tgt := 10) hx hb d_Mo_answer_169 (by decide) ?_
                      exact hloop2_ih fnd 0 (fn_le hfn) _ _ ls (lv_sub hl [2, 3, 0, 1] rfl) (hP.sub [6, 7, 4, 5, 0, 1, 2, 3] rfl) (hD.sub [6, 7, 4, 5, 0, 1, 2, 3] (by decide) rfl) hS (ans_m0 (by omega) hb44 hm10)
                    · skip
                      replace hb44 := cv_ne (a := fnd) (b := 0) (by omega) (by omega) hb44
                      refine lv_lload hx hb d_Mo_answer_157 (lv_at hl 5 rfl) ?_
                      refine lv_lconst (v := 1) hx hb d_Mo_answer_159 (by decide) ?_
                      refine lv_iload hx hb d_Mo_answer_160 (lv_at hl 4 rfl) ?_
                      refine lv_lshl (v := 1 <<< (Int32.toInt64 (nI j42) &&& 63)) hx hb d_Mo_answer_162 rfl ?_
                      refine lv_lor hx hb d_Mo_answer_163 ?_
                      refine lv_goto (tgt := 168) hx hb d_Mo_answer_164 (by decide) ?_
                      refine lv_lstore_n (lv' := [(2, .long (z7 ||| (1 <<< (Int32.toInt64 (nI j42) &&& 63)))), (4, .int (nI fnd)), (0, .ref m0), (1, .int x), (6, .int (nI j42)), (7, .long z7), (9, .int (nI fnd))]) hx hb d_Mo_answer_168 rfl hl (by decide) rfl (fun ls hln => ?_)
                      replace hl : lv_has ls 11 [(2, .long (z7 ||| (1 <<< (Int32.toInt64 (nI j42) &&& 63)))), (4, .int (nI fnd)), (0, .ref m0), (1, .int x), (6, .int (nI j42)), (7, .long z7), (9, .int (nI fnd))] := hln
                      clear hln
                      refine lv_goto (tgt := 10) hx hb d_Mo_answer_169 (by decide) ?_
                      exact hloop2_ih fnd (z7 ||| (1 <<< (Int32.toInt64 (nI j42) &&& 63))) (fn_le hfn) _ _ ls (lv_sub hl [2, 3, 0, 1] rfl) (hP.sub [6, 7, 4, 5, 0, 1, 2, 3] rfl) (hD.sub [6, 7, 4, 5, 0, 1, 2, 3] (by decide) rfl) hS (ans_ms (by omega) hok (fn_le hfn) (ans_lt hg hev hkv hag hfn hb44) hm10)
                  · skip
                    replace hb43 := cv_eq (a := fnd) (b := 0) (by omega) (by omega) hb43
                    refine lv_lload hx hb d_Mo_answer_84 (lv_at hl 5 rfl) ?_
                    refine lv_iload hx hb d_Mo_answer_86 (lv_at hl 4 rfl) ?_
                    have hPc : va_P (dC, dI) clA [] _ := pu_P (H := H)
                    have hDc : va_D (fun _ => True) [] := pu_D
                    have hFc := pu_free hS hA
                    refine va_calli (va_runS (As := [.long z7, .int (nI j42)]) (rest := []) ⟨hx, hb, hml, hown, ht⟩ (c_Mo_has l dC dI cI cL cZ _ z7 j42 (by first | assumption | omega | trivial | exact AllLt.zero | exact AllN.zero | exact AllM.zero | exact Or.inl rfl | exact Or.inr rfl)) (va_cwS 2 ht (good_S wd_4_121 wd_4_122 wd_1_10 wd_4_123) rfl rfl rfl (by decide +kernel) ⟨Nat.le_of_ble_eq_true rfl, Nat.le_of_ble_eq_true rfl⟩) ⟨fun a U g mk q => by obtain ⟨q0, q1, qP, qK, qD, qN⟩ := q; exact ⟨q0, q1, qP, va_K.moved (u := U) (U := U.calling g mk a) (Vm.Alike.refl U.vm) qK, qD, NwA.same (u := U) rfl qN⟩, fun U hU hW => ⟨rfl, by rw [hU], by rw [hU]; exact hPc, va_K.moved hW.alike hK, hDc.weaken (fun _ _ _ _ => trivial), NwA.warm hW hN⟩⟩ rfl rfl hl.1 rfl (lv_room (Nat.le_of_ble_eq_true rfl)) d_Mo_answer_88 ⟨Nat.le_of_ble_eq_true rfl, Nat.le_of_ble_eq_true rfl⟩) hS (fun q _ h => hFc q h) hFc (fun r47 u9 t9 H45 locs ht9 hvm hw46 hB hz1 hk1 hSn => ?_)
                    replace hP : va_P (dC, dI) clA [(m8, .inl (cI, 30, .inl gca)), (m9, .inl (cL, 30, .inr (.inl gtn))), (m13, .inl (cZ, 30, .inl gcu)), (m17, .inl (cI, 62, .inl gwy)), (m2, .inl (cI, 8, .inl mq)), (m7, .inl (cI, 30, .inl gtr)), (m0, .inr (9, [.int mth, .int (nI mt), .ref m1, .ref m2, .int mf, .int (nI mcd), .ref m3, .ref m4, .ref m5, .ref m6, .int (nI mev), .ref m7, .ref m8, .ref m9, .ref m10, .ref m11, .ref m12, .ref m13, .int mwh, .int mps, .ref m14, .ref m15, .long mlr, .int (nI mlt), .int (nI mlm), .ref m16, .int (-1), .ref m17])), (m1, .inl (cI, 8, .inl mp))] H45 := pu_keep hP hk1
                    replace hS := hSn
                    clear hSn hPc hDc hFc hk1 hz1 ht9 hvm hB
                    refine W.cs (cells' := 0) (slots' := 0) rfl rfl ?_
                    subst hw46
                    refine lv_istore (lv' := [(10, .int (hasv z7 j42)), (0, .ref m0), (1, .int x), (2, .long y2), (4, .int (nI okn)), (6, .int (nI j42)), (7, .long z7), (9, .int (nI fnd))]) hx hb d_Mo_answer_91 hl (by decide) rfl (fun ls hln => ?_)
                    replace hl : lv_has ls 11 [(10, .int (hasv z7 j42)), (0, .ref m0), (1, .int x), (2, .long y2), (4, .int (nI okn)), (6, .int (nI j42)), (7, .long z7), (9, .int (nI fnd))] := hln
                    clear hln
                    refine lv_lload hx hb d_Mo_answer_93 (lv_at hl 6 rfl) ?_
                    refine lv_lconst (v := 1) hx hb d_Mo_answer_95 (by decide) ?_
                    refine lv_iload hx hb d_Mo_answer_96 (lv_at hl 5 rfl) ?_
                    refine lv_lshl (v := 1 <<< (Int32.toInt64 (nI j42) &&& 63)) hx hb d_Mo_answer_98 rfl ?_
                    refine lv_ldc2 hx hb hown (ht _ wd_4_124) d_Mo_answer_99 ?_
                    refine lv_lxor hx hb d_Mo_answer_102 ?_
                    refine lv_land hx hb d_Mo_answer_103 ?_
                    refine lv_lstore (lv' := [(7, .long (z7 &&& ((1 <<< (Int32.toInt64 (nI j42) &&& 63)) ^^^ (-1)))), (10, .int (hasv z7 j42)), (0, .ref m0), (1, .int x), (2, .long y2), (4, .int (nI okn)), (6, .int (nI j42)), (9, .int (nI fnd))]) hx hb d_Mo_answer_104 hl (by decide) rfl (fun ls hln => ?_)
                    replace hl : lv_has ls 11 [(7, .long (z7 &&& ((1 <<< (Int32.toInt64 (nI j42) &&& 63)) ^^^ (-1)))), (10, .int (hasv z7 j42)), (0, .ref m0), (1, .int x), (2, .long y2), (4, .int (nI okn)), (6, .int (nI j42)), (9, .int (nI fnd))] := hln
                    clear hln
                    refine lv_iload hx hb d_Mo_answer_106 (lv_at hl 1 rfl) ?_
                    refine lv_if_ne (tgt := 126) hx hb d_Mo_answer_108 (by decide) (fun hb48 => ?_) (fun hb48 => ?_)
                    · skip
                      refine lv_iconst (v := 0) hx hb d_Mo_answer_126 (by decide) ?_
                      refine lv_istore (lv' := [(9, .int 0), (7, .long (z7 &&& ((1 <<< (Int32.toInt64 (nI j42) &&& 63)) ^^^ (-1)))), (10, .int (hasv z7 j42)), (0, .ref m0), (1, .int x), (2, .long y2), (4, .int (nI okn)), (6, .int (nI j42))]) hx hb d_Mo_answer_127 hl (by decide) rfl (fun ls hln => ?_)
                      replace hl : lv_has ls 11 [(9, .int 0), (7, .long (z7 &&& ((1 <<< (Int32.toInt64 (nI j42) &&& 63)) ^^^ (-1)))), (10, .int (hasv z7 j42)), (0, .ref m0), (1, .int x), (2, .long y2), (4, .int (nI okn)), (6, .int (nI j42))] := hln
                      clear hln
                      refine lv_iload hx hb d_Mo_answer_129 (lv_at hl 0 rfl) ?_
                      refine lv_if_eq (tgt := 139) hx hb d_Mo_answer_131 (by decide) (fun _ => ?_) (fun h => (h (by decide)).elim)
                      refine lv_iload hx hb d_Mo_answer_139 (lv_at hl 7 rfl) ?_
                      refine lv_iconst (v := 1) hx hb d_Mo_answer_141 (by decide) ?_
                      refine lv_isub hx hb d_Mo_answer_142 ?_
                      obtain ⟨kv49, kv49_e, kv49_k⟩ := KvI.dec2 (j := j42) j42_l
                      refine ci_i (y := kv49) kv49_e ?_
                      refine lv_istore (lv' := [(6, .int kv49), (9, .int 0), (7, .long (z7 &&& ((1 <<< (Int32.toInt64 (nI j42) &&& 63)) ^^^ (-1)))), (10, .int (hasv z7 j42)), (0, .ref m0), (1, .int x), (2, .long y2), (4, .int (nI okn))]) hx hb d_Mo_answer_143 hl (by decide) rfl (fun ls hln => ?_)
                      replace hl : lv_has ls 11 [(6, .int kv49), (9, .int 0), (7, .long (z7 &&& ((1 <<< (Int32.toInt64 (nI j42) &&& 63)) ^^^ (-1)))), (10, .int (hasv z7 j42)), (0, .ref m0), (1, .int x), (2, .long y2), (4, .int (nI okn))] := hln
                      clear hln
                      refine lv_goto (tgt := 74) hx hb d_Mo_answer_145 (by decide) ?_
                      exact hloop39_ih j42 kv49 (z7 &&& ((1 <<< (Int32.toInt64 (nI j42) &&& 63)) ^^^ (-1))) 0 kv49_k (by first | assumption | omega | trivial | exact AllLt.zero | exact AllN.zero | exact AllM.zero | exact Or.inl rfl | exact Or.inr rfl) (clr_ag hag (by omega) j42_g) (Or.inl rfl) _ _ ls (lv_sub hl [4, 5, 6, 7, 0, 2, 1] rfl) (hP.sub [0, 1, 2, 3, 4, 5, 6, 7] rfl) (hD.sub [0, 1, 2, 3, 4, 5, 6, 7] (by decide) rfl) hS (by omega)
                    · skip
                      refine lv_aload_n hx hb d_Mo_answer_111 rfl (lv_at hl 2 rfl) ?_
                      refine lv_lload hx hb d_Mo_answer_112 (lv_at hl 0 rfl) ?_
                      refine lv_iload hx hb d_Mo_answer_114 (lv_at hl 6 rfl) ?_
                      have hPc := hP.sub (ws' := [(m0, .inr (9, [.int mth, .int (nI mt), .ref m1, .ref m2, .int mf, .int (nI mcd), .ref m3, .ref m4, .ref m5, .ref m6, .int (nI mev), .ref m7, .ref m8, .ref m9, .ref m10, .ref m11, .ref m12, .ref m13, .int mwh, .int mps, .ref m14, .ref m15, .long mlr, .int (nI mlt), .int (nI mlm), .ref m16, .int (-1), .ref m17])), (m8, .inl (cI, 30, .inl gca)), (m9, .inl (cL, 30, .inr (.inl gtn))), (m13, .inl (cZ, 30, .inl gcu))]) [6, 0, 1, 2] rfl
                      have hDc := hD.sub (ws' := [(m0, .inr (9, [.int mth, .int (nI mt), .ref m1, .ref m2, .int mf, .int (nI mcd), .ref m3, .ref m4, .ref m5, .ref m6, .int (nI mev), .ref m7, .ref m8, .ref m9, .ref m10, .ref m11, .ref m12, .ref m13, .int mwh, .int mps, .ref m14, .ref m15, .long mlr, .int (nI mlt), .int (nI mlm), .ref m16, .int (-1), .ref m17])), (m8, .inl (cI, 30, .inl gca)), (m9, .inl (cL, 30, .inr (.inl gtn))), (m13, .inl (cZ, 30, .inl gcu))]) [6, 0, 1, 2] (by decide) rfl
                      have hFc := va_free (wc := [(m0, .inr (9, [.int mth, .int (nI mt), .ref m1, .ref m2, .int mf, .int (nI mcd), .ref m3, .ref m4, .ref m5, .ref m6, .int (nI mev), .ref m7, .ref m8, .ref m9, .ref m10, .ref m11, .ref m12, .ref m13, .int mwh, .int mps, .ref m14, .ref m15, .long mlr, .int (nI mlt), .int (nI mlm), .ref m16, .int (-1), .ref m17])), (m8, .inl (cI, 30, .inl gca)), (m9, .inl (cL, 30, .inr (.inl gtn))), (m13, .inl (cZ, 30, .inl gcu))]) hD hS hA [6, 0, 1, 2] rfl
                      refine va_calli (va_runV (C := "NetUnfolderModel") (As := [.long (z7 &&& ((1 <<< (Int32.toInt64 (nI j42) &&& 63)) ^^^ (-1))), .int (nI j42)]) (rest := []) ⟨hx, hb, hml, hown, ht⟩ (c_Mo_fits l dC dI cI cL cZ _ m0 m1 m2 m3 m4 m5 m6 m7 m8 m9 m10 m11 m12 m13 m14 m15 m16 m17 mth mt mf mcd mev mwh mps mlr mlt mlm (-1) gca gtn gcu (z7 &&& ((1 <<< (Int32.toInt64 (nI j42) &&& 63)) ^^^ (-1))) j42 (by first | assumption | omega | trivial | exact AllLt.zero | exact AllN.zero | exact AllM.zero | exact Or.inl rfl | exact Or.inr rfl) (by first | assumption | omega | trivial | exact AllLt.zero | exact AllN.zero | exact AllM.zero | exact Or.inl rfl | exact Or.inr rfl)) (cwV 2 ht (good_V wd_4_200 wd_4_202 ws_Mo_fits wd_1_10 wd_4_203) rfl rfl rfl (by decide +kernel) ⟨Nat.le_of_ble_eq_true rfl, Nat.le_of_ble_eq_true rfl⟩) ⟨fun a U g mk q => by obtain ⟨q0, q1, qP, qK, qD, qN⟩ := q; exact ⟨q0, q1, qP, va_K.moved (u := U) (U := U.calling g mk a) (Vm.Alike.refl U.vm) qK, qD, NwA.same (u := U) rfl qN⟩, (va_recv (q0 := 6) (ci := 9) hK hP rfl rfl), fun U hU hW => ⟨rfl, by rw [hU], by rw [hU]; exact hPc, va_K.moved hW.alike hK, hDc.weaken (fun _ _ _ _ => trivial), NwA.warm hW hN⟩⟩ rfl rfl hl.1 rfl (lv_room (Nat.le_of_ble_eq_true rfl)) d_Mo_answer_116 ⟨Nat.le_of_ble_eq_true rfl, Nat.le_of_ble_eq_true rfl⟩) hS (fun q _ h => hFc q h) hFc (fun r52 u9 t9 H50 locs ht9 hvm hw51 hB hz1 hk1 hSn => ?_)
                      obtain ⟨hP1, hD1⟩ := hB
                      rw [ht9] at hP1
                      obtain ⟨hPn, hDn⟩ := va_join (wr := [(m17, .inl (cI, 62, .inl gwy)), (m2, .inl (cI, 8, .inl mq)), (m7, .inl (cI, 30, .inl gtr)), (m1, .inl (cI, 8, .inl mp))]) (w1 := [(m0, .inr (9, [.int mth, .int (nI mt), .ref m1, .ref m2, .int mf, .int (nI mcd), .ref m3, .ref m4, .ref m5, .ref m6, .int (nI mev), .ref m7, .ref m8, .ref m9, .ref m10, .ref m11, .ref m12, .ref m13, .int mwh, .int mps, .ref m14, .ref m15, .long mlr, .int (nI mlt), .int (nI mlm), .ref m16, .int (-1), .ref m17])), (m8, .inl (cI, 30, .inl gca)), (m9, .inl (cL, 30, .inr (.inl gtn))), (m13, .inl (cZ, 30, .inl gcu))]) hP hD [6, 0, 1, 2] [3, 4, 5, 7] rfl rfl (by decide) (by decide) hk1 hFc hP1 hD1
                      replace hP : va_P (dC, dI) clA [(m17, .inl (cI, 62, .inl gwy)), (m2, .inl (cI, 8, .inl mq)), (m7, .inl (cI, 30, .inl gtr)), (m1, .inl (cI, 8, .inl mp)), (m0, .inr (9, [.int mth, .int (nI mt), .ref m1, .ref m2, .int mf, .int (nI mcd), .ref m3, .ref m4, .ref m5, .ref m6, .int (nI mev), .ref m7, .ref m8, .ref m9, .ref m10, .ref m11, .ref m12, .ref m13, .int mwh, .int mps, .ref m14, .ref m15, .long mlr, .int (nI mlt), .int (nI mlm), .ref m16, .int (-1), .ref m17])), (m8, .inl (cI, 30, .inl gca)), (m9, .inl (cL, 30, .inr (.inl gtn))), (m13, .inl (cZ, 30, .inl gcu))] H50 := hPn
                      replace hD : va_D A [(m17, .inl (cI, 62, .inl gwy)), (m2, .inl (cI, 8, .inl mq)), (m7, .inl (cI, 30, .inl gtr)), (m1, .inl (cI, 8, .inl mp)), (m0, .inr (9, [.int mth, .int (nI mt), .ref m1, .ref m2, .int mf, .int (nI mcd), .ref m3, .ref m4, .ref m5, .ref m6, .int (nI mev), .ref m7, .ref m8, .ref m9, .ref m10, .ref m11, .ref m12, .ref m13, .int mwh, .int mps, .ref m14, .ref m15, .long mlr, .int (nI mlt), .int (nI mlm), .ref m16, .int (-1), .ref m17])), (m8, .inl (cI, 30, .inl gca)), (m9, .inl (cL, 30, .inr (.inl gtn))), (m13, .inl (cZ, 30, .inl gcu))] := hDn
                      replace hS := hSn
                      clear hPn hDn hSn
                      clear hPc hDc hFc hP1 hD1 hk1 hz1 ht9 hvm
                      refine W.cs (cells' := 0) (slots' := 0) rfl rfl ?_
                      have hr53 := hw51
                      refine lv_if_eq (tgt := 126) hx hb d_Mo_answer_119 (by decide) (fun hb54 => ?_) (fun hb54 => ?_)
                      · skip
                        refine lv_iconst (v := 0) hx hb d_Mo_answer_126 (by decide) ?_
                        refine lv_istore (lv' := [(9, .int 0), (7, .long (z7 &&& ((1 <<< (Int32.toInt64 (nI j42) &&& 63)) ^^^ (-1)))), (10, .int (hasv z7 j42)), (0, .ref m0), (1, .int x), (2, .long y2), (4, .int (nI okn)), (6, .int (nI j42))]) hx hb d_Mo_answer_127 hl (by decide) rfl (fun ls hln => ?_)
                        replace hl : lv_has ls 11 [(9, .int 0), (7, .long (z7 &&& ((1 <<< (Int32.toInt64 (nI j42) &&& 63)) ^^^ (-1)))), (10, .int (hasv z7 j42)), (0, .ref m0), (1, .int x), (2, .long y2), (4, .int (nI okn)), (6, .int (nI j42))] := hln
                        clear hln
                        refine lv_iload hx hb d_Mo_answer_129 (lv_at hl 0 rfl) ?_
                        refine lv_if_eq (tgt := 139) hx hb d_Mo_answer_131 (by decide) (fun _ => ?_) (fun h => (h (by decide)).elim)
                        refine lv_iload hx hb d_Mo_answer_139 (lv_at hl 7 rfl) ?_
                        refine lv_iconst (v := 1) hx hb d_Mo_answer_141 (by decide) ?_
                        refine lv_isub hx hb d_Mo_answer_142 ?_
                        obtain ⟨kv55, kv55_e, kv55_k⟩ := KvI.dec2 (j := j42) j42_l
                        refine ci_i (y := kv55) kv55_e ?_
                        refine lv_istore (lv' := [(6, .int kv55), (9, .int 0), (7, .long (z7 &&& ((1 <<< (Int32.toInt64 (nI j42) &&& 63)) ^^^ (-1)))), (10, .int (hasv z7 j42)), (0, .ref m0), (1, .int x), (2, .long y2), (4, .int (nI okn))]) hx hb d_Mo_answer_143 hl (by decide) rfl (fun ls hln => ?_)
                        replace hl : lv_has ls 11 [(6, .int kv55), (9, .int 0), (7, .long (z7 &&& ((1 <<< (Int32.toInt64 (nI j42) &&& 63)) ^^^ (-1)))), (10, .int (hasv z7 j42)), (0, .ref m0), (1, .int x), (2, .long y2), (4, .int (nI okn))] := hln
                        clear hln
                        refine lv_goto (tgt := 74) hx hb d_Mo_answer_145 (by decide) ?_
                        exact hloop39_ih j42 kv55 (z7 &&& ((1 <<< (Int32.toInt64 (nI j42) &&& 63)) ^^^ (-1))) 0 kv55_k (by first | assumption | omega | trivial | exact AllLt.zero | exact AllN.zero | exact AllM.zero | exact Or.inl rfl | exact Or.inr rfl) (clr_ag hag (by omega) j42_g) (Or.inl rfl) _ _ ls (lv_sub hl [4, 5, 6, 7, 0, 2, 1] rfl) (hP.sub [5, 6, 7, 0, 1, 2, 4, 3] rfl) (hD.sub [5, 6, 7, 0, 1, 2, 4, 3] (by decide) rfl) hS (by omega)
                      · skip
                        refine lv_iconst (v := 1) hx hb d_Mo_answer_122 (by decide) ?_
                        refine lv_goto (tgt := 127) hx hb d_Mo_answer_123 (by decide) ?_
                        refine lv_istore (lv' := [(9, .int 1), (7, .long (z7 &&& ((1 <<< (Int32.toInt64 (nI j42) &&& 63)) ^^^ (-1)))), (10, .int (hasv z7 j42)), (0, .ref m0), (1, .int x), (2, .long y2), (4, .int (nI okn)), (6, .int (nI j42))]) hx hb d_Mo_answer_127 hl (by decide) rfl (fun ls hln => ?_)
                        replace hl : lv_has ls 11 [(9, .int 1), (7, .long (z7 &&& ((1 <<< (Int32.toInt64 (nI j42) &&& 63)) ^^^ (-1)))), (10, .int (hasv z7 j42)), (0, .ref m0), (1, .int x), (2, .long y2), (4, .int (nI okn)), (6, .int (nI j42))] := hln
                        clear hln
                        refine lv_iload hx hb d_Mo_answer_129 (lv_at hl 0 rfl) ?_
                        refine lv_if_eq (tgt := 139) hx hb d_Mo_answer_131 (by decide) (fun h => absurd h (by decide)) (fun _ => ?_)
                        refine lv_iload hx hb d_Mo_answer_134 (lv_at hl 7 rfl) ?_
                        refine lv_goto (tgt := 143) hx hb d_Mo_answer_136 (by decide) ?_
                        refine lv_istore (lv' := [(6, .int (nI j42)), (9, .int 1), (7, .long (z7 &&& ((1 <<< (Int32.toInt64 (nI j42) &&& 63)) ^^^ (-1)))), (10, .int (hasv z7 j42)), (0, .ref m0), (1, .int x), (2, .long y2), (4, .int (nI okn))]) hx hb d_Mo_answer_143 hl (by decide) rfl (fun ls hln => ?_)
                        replace hl : lv_has ls 11 [(6, .int (nI j42)), (9, .int 1), (7, .long (z7 &&& ((1 <<< (Int32.toInt64 (nI j42) &&& 63)) ^^^ (-1)))), (10, .int (hasv z7 j42)), (0, .ref m0), (1, .int x), (2, .long y2), (4, .int (nI okn))] := hln
                        clear hln
                        refine lv_goto (tgt := 74) hx hb d_Mo_answer_145 (by decide) ?_
                        exact hloop39_ih (j42 + 1) (nI j42) (z7 &&& ((1 <<< (Int32.toInt64 (nI j42) &&& 63)) ^^^ (-1))) 1 (KvI.of' (by omega)) (by first | assumption | omega | trivial | exact AllLt.zero | exact AllN.zero | exact AllM.zero | exact Or.inl rfl | exact Or.inr rfl) (clr_ag1' hag (by omega) j42_g (hasv_0 hb48)) (Or.inr ⟨rfl, j42, rfl, (hag j42 (by omega)).symm.trans (hasv_0 hb48)⟩) _ _ ls (lv_sub hl [4, 5, 6, 7, 0, 2, 1] rfl) (hP.sub [5, 6, 7, 0, 1, 2, 4, 3] rfl) (hD.sub [5, 6, 7, 0, 1, 2, 4, 3] (by decide) rfl) hS (by omega)
            exact hloop39 ((2 * mev + (1 - 0)) + 1) mev kv0 y2 0 kv0_k (by first | assumption | omega | trivial | exact AllLt.zero | exact AllN.zero | exact AllM.zero | exact Or.inl rfl | exact Or.inr rfl) (fun i _ => rfl) (Or.inl rfl) _ _ ls (lv_sub hl [4, 5, 6, 7, 2, 1, 0] rfl) hP hD hS (Nat.lt_succ_self _)
          · skip
            refine lv_goto (tgt := 45) hx hb d_Mo_answer_36 (by decide) ?_
            refine lv_aload_n hx hb d_Mo_answer_45 rfl (lv_at hl 1 rfl) ?_
            refine lv_iconst (v := 0) hx hb d_Mo_answer_46 (by decide) ?_
            refine va_put (D := (dC, dI)) (ci := 9) (v := .int 0) (ty := .int) (C := "NetUnfolderModel") (T := T_Mo) (N := 28) hx hb ht in_Mo ty_Mo ok_Mo nm_Mo hown hK hP hD hS 6 rfl rfl 26 (by decide) (ht _ wd_4_26) (fun _ h9 => h9) rfl (by decide +kernel) rfl rfl (Nat.le_of_ble_eq_true rfl) d_Mo_answer_47 (fun H56 locs hPn hDn hSn => ?_)
            replace hP : va_P (dC, dI) clA [(m8, .inl (cI, 30, .inl gca)), (m9, .inl (cL, 30, .inr (.inl gtn))), (m13, .inl (cZ, 30, .inl gcu)), (m17, .inl (cI, 62, .inl gwy)), (m2, .inl (cI, 8, .inl mq)), (m7, .inl (cI, 30, .inl gtr)), (m0, .inr (9, [.int mth, .int (nI mt), .ref m1, .ref m2, .int mf, .int (nI mcd), .ref m3, .ref m4, .ref m5, .ref m6, .int (nI mev), .ref m7, .ref m8, .ref m9, .ref m10, .ref m11, .ref m12, .ref m13, .int mwh, .int mps, .ref m14, .ref m15, .long mlr, .int (nI mlt), .int (nI mlm), .ref m16, .int 0, .ref m17])), (m1, .inl (cI, 8, .inl mp))] H56 := hPn
            replace hD : va_D A [(m8, .inl (cI, 30, .inl gca)), (m9, .inl (cL, 30, .inr (.inl gtn))), (m13, .inl (cZ, 30, .inl gcu)), (m17, .inl (cI, 62, .inl gwy)), (m2, .inl (cI, 8, .inl mq)), (m7, .inl (cI, 30, .inl gtr)), (m0, .inr (9, [.int mth, .int (nI mt), .ref m1, .ref m2, .int mf, .int (nI mcd), .ref m3, .ref m4, .ref m5, .ref m6, .int (nI mev), .ref m7, .ref m8, .ref m9, .ref m10, .ref m11, .ref m12, .ref m13, .int mwh, .int mps, .ref m14, .ref m15, .long mlr, .int (nI mlt), .int (nI mlm), .ref m16, .int 0, .ref m17])), (m1, .inl (cI, 8, .inl mp))] := hDn
            replace hS := hSn
            clear hPn hDn hSn
            refine lv_aload_n hx hb d_Mo_answer_50 rfl (lv_at hl 1 rfl) ?_
            refine lv_lload_n hx hb d_Mo_answer_51 rfl (lv_at hl 3 rfl) ?_
            have hPc := hP.sub (ws' := [(m0, .inr (9, [.int mth, .int (nI mt), .ref m1, .ref m2, .int mf, .int (nI mcd), .ref m3, .ref m4, .ref m5, .ref m6, .int (nI mev), .ref m7, .ref m8, .ref m9, .ref m10, .ref m11, .ref m12, .ref m13, .int mwh, .int mps, .ref m14, .ref m15, .long mlr, .int (nI mlt), .int (nI mlm), .ref m16, .int 0, .ref m17])), (m7, .inl (cI, 30, .inl gtr)), (m17, .inl (cI, 62, .inl gwy))]) [6, 5, 3] rfl
            have hDc := hD.sub (ws' := [(m0, .inr (9, [.int mth, .int (nI mt), .ref m1, .ref m2, .int mf, .int (nI mcd), .ref m3, .ref m4, .ref m5, .ref m6, .int (nI mev), .ref m7, .ref m8, .ref m9, .ref m10, .ref m11, .ref m12, .ref m13, .int mwh, .int mps, .ref m14, .ref m15, .long mlr, .int (nI mlt), .int (nI mlm), .ref m16, .int 0, .ref m17])), (m7, .inl (cI, 30, .inl gtr)), (m17, .inl (cI, 62, .inl gwy))]) [6, 5, 3] (by decide) rfl
            have hFc := va_free (wc := [(m0, .inr (9, [.int mth, .int (nI mt), .ref m1, .ref m2, .int mf, .int (nI mcd), .ref m3, .ref m4, .ref m5, .ref m6, .int (nI mev), .ref m7, .ref m8, .ref m9, .ref m10, .ref m11, .ref m12, .ref m13, .int mwh, .int mps, .ref m14, .ref m15, .long mlr, .int (nI mlt), .int (nI mlm), .ref m16, .int 0, .ref m17])), (m7, .inl (cI, 30, .inl gtr)), (m17, .inl (cI, 62, .inl gwy))]) hD hS hA [6, 5, 3] rfl
            refine va_callv (va_runV (C := "NetUnfolderModel") (As := [.long y2]) (rest := []) ⟨hx, hb, hml, hown, ht⟩ (c_Mo_addWay l dC dI cI cL cZ _ m0 m1 m2 m3 m4 m5 m6 m7 m8 m9 m10 m11 m12 m13 m14 m15 m16 m17 mth mt mf mcd mev mwh mps mlr mlt mlm gtr gwy y2 0 (by first | assumption | omega | trivial | exact AllLt.zero | exact AllN.zero | exact AllM.zero | exact Or.inl rfl | exact Or.inr rfl) (by first | assumption | omega | trivial | exact AllLt.zero | exact AllN.zero | exact AllM.zero | exact Or.inl rfl | exact Or.inr rfl) (by first | assumption | omega | trivial | exact AllLt.zero | exact AllN.zero | exact AllM.zero | exact Or.inl rfl | exact Or.inr rfl) (by first | assumption | omega | trivial | exact AllLt.zero | exact AllN.zero | exact AllM.zero | exact Or.inl rfl | exact Or.inr rfl)) (cwV 1 ht (good_V wd_4_173 wd_4_175 ws_Mo_addWay wd_1_10 wd_4_176) rfl rfl rfl (by decide +kernel) ⟨Nat.le_of_ble_eq_true rfl, Nat.le_of_ble_eq_true rfl⟩) ⟨fun a U g mk q => by obtain ⟨q0, q1, qP, qK, qD, qN⟩ := q; exact ⟨q0, q1, qP, va_K.moved (u := U) (U := U.calling g mk a) (Vm.Alike.refl U.vm) qK, qD, NwA.same (u := U) rfl qN⟩, (va_recv (q0 := 6) (ci := 9) hK hP rfl rfl), fun U hU hW => ⟨rfl, by rw [hU], by rw [hU]; exact hPc, va_K.moved hW.alike hK, hDc.weaken (fun _ _ _ _ => trivial), NwA.warm hW hN⟩⟩ rfl rfl hl.1 rfl (lv_room (Nat.le_of_ble_eq_true rfl)) d_Mo_answer_52 ⟨Nat.le_of_ble_eq_true rfl, Nat.le_of_ble_eq_true rfl⟩) hS (fun q _ h => hFc q h) hFc (fun u9 t9 H57 locs ht9 hvm hw58 hB hz1 hk1 hSn => ?_)
            obtain ⟨ln160, gwy161, hf62, hf63, hP1, hD1⟩ := hB
            rw [ht9] at hP1
            obtain ⟨hPn, hDn⟩ := va_join (wr := [(m8, .inl (cI, 30, .inl gca)), (m9, .inl (cL, 30, .inr (.inl gtn))), (m13, .inl (cZ, 30, .inl gcu)), (m2, .inl (cI, 8, .inl mq)), (m1, .inl (cI, 8, .inl mp))]) (w1 := [(m0, .inr (9, [.int mth, .int (nI mt), .ref m1, .ref m2, .int mf, .int (nI mcd), .ref m3, .ref m4, .ref m5, .ref m6, .int (nI mev), .ref m7, .ref m8, .ref m9, .ref m10, .ref m11, .ref m12, .ref m13, .int mwh, .int mps, .ref m14, .ref m15, .long mlr, .int (nI mlt), .int (nI mlm), .ref m16, .int (nI ln160), .ref m17])), (m7, .inl (cI, 30, .inl gtr)), (m17, .inl (cI, 62, .inl gwy161))]) hP hD [6, 5, 3] [0, 1, 2, 4, 7] rfl rfl (by decide) (by decide) hk1 hFc hP1 hD1
            replace hP : va_P (dC, dI) clA [(m8, .inl (cI, 30, .inl gca)), (m9, .inl (cL, 30, .inr (.inl gtn))), (m13, .inl (cZ, 30, .inl gcu)), (m2, .inl (cI, 8, .inl mq)), (m1, .inl (cI, 8, .inl mp)), (m0, .inr (9, [.int mth, .int (nI mt), .ref m1, .ref m2, .int mf, .int (nI mcd), .ref m3, .ref m4, .ref m5, .ref m6, .int (nI mev), .ref m7, .ref m8, .ref m9, .ref m10, .ref m11, .ref m12, .ref m13, .int mwh, .int mps, .ref m14, .ref m15, .long mlr, .int (nI mlt), .int (nI mlm), .ref m16, .int (nI ln160), .ref m17])), (m7, .inl (cI, 30, .inl gtr)), (m17, .inl (cI, 62, .inl gwy161))] H57 := hPn
            replace hD : va_D A [(m8, .inl (cI, 30, .inl gca)), (m9, .inl (cL, 30, .inr (.inl gtn))), (m13, .inl (cZ, 30, .inl gcu)), (m2, .inl (cI, 8, .inl mq)), (m1, .inl (cI, 8, .inl mp)), (m0, .inr (9, [.int mth, .int (nI mt), .ref m1, .ref m2, .int mf, .int (nI mcd), .ref m3, .ref m4, .ref m5, .ref m6, .int (nI mev), .ref m7, .ref m8, .ref m9, .ref m10, .ref m11, .ref m12, .ref m13, .int mwh, .int mps, .ref m14, .ref m15, .long mlr, .int (nI mlt), .int (nI mlm), .ref m16, .int (nI ln160), .ref m17])), (m7, .inl (cI, 30, .inl gtr)), (m17, .inl (cI, 62, .inl gwy161))] := hDn
            replace hS := hSn
            clear hPn hDn hSn
            clear hPc hDc hFc hP1 hD1 hk1 hz1 ht9 hvm
            refine W.cs (cells' := 0) (slots' := 0) rfl rfl ?_
            refine lv_aload_n hx hb d_Mo_answer_55 rfl (lv_at hl 1 rfl) ?_
            refine va_get (D := (dC, dI)) (ci := 9) (v := .int (nI ln160)) (C := "NetUnfolderModel") (T := T_Mo) (N := 28) hx hb ht in_Mo hown hK hP 5 rfl rfl 26 (by decide) (ht _ wd_4_26) (fun _ h9 => h9) rfl d_Mo_answer_56 ?_
            have hP9 := hP.sub (ws' := [(m0, .inr (9, [.int mth, .int (nI mt), .ref m1, .ref m2, .int mf, .int (nI mcd), .ref m3, .ref m4, .ref m5, .ref m6, .int (nI mev), .ref m7, .ref m8, .ref m9, .ref m10, .ref m11, .ref m12, .ref m13, .int mwh, .int mps, .ref m14, .ref m15, .long mlr, .int (nI mlt), .int (nI mlm), .ref m16, .int (nI ln160), .ref m17])), (m1, .inl (cI, 8, .inl mp)), (m2, .inl (cI, 8, .inl mq)), (m7, .inl (cI, 30, .inl gtr)), (m8, .inl (cI, 30, .inl gca)), (m9, .inl (cL, 30, .inr (.inl gtn))), (m13, .inl (cZ, 30, .inl gcu)), (m17, .inl (cI, 62, .inl gwy161))]) [5, 4, 3, 6, 0, 1, 2, 7] rfl
            have hD9 := hD.sub (ws' := [(m0, .inr (9, [.int mth, .int (nI mt), .ref m1, .ref m2, .int mf, .int (nI mcd), .ref m3, .ref m4, .ref m5, .ref m6, .int (nI mev), .ref m7, .ref m8, .ref m9, .ref m10, .ref m11, .ref m12, .ref m13, .int mwh, .int mps, .ref m14, .ref m15, .long mlr, .int (nI mlt), .int (nI mlm), .ref m16, .int (nI ln160), .ref m17])), (m1, .inl (cI, 8, .inl mp)), (m2, .inl (cI, 8, .inl mq)), (m7, .inl (cI, 30, .inl gtr)), (m8, .inl (cI, 30, .inl gca)), (m9, .inl (cL, 30, .inr (.inl gtn))), (m13, .inl (cZ, 30, .inl gcu)), (m17, .inl (cI, 62, .inl gwy161))]) [5, 4, 3, 6, 0, 1, 2, 7] (by decide) rfl
            subst hQ
            exact W.iret (v := nI ln160) hx hb hr (fun t9 ht9 hW => ⟨⟨nI ln160, (), rfl, trivial, (nI ln160), gwy161, (Or.inr ⟨_, by omega, rfl⟩), (by first | assumption | omega | trivial | exact AllLt.zero | exact AllN.zero | exact AllM.zero | exact Or.inl rfl | exact Or.inr rfl), by rw [ht9]; exact hP9, hD9⟩, hS.F ht9⟩) hS.2.2 d_Mo_answer_59
  exact hloop2 ((1 * (2 ^ 30 - vY 0)) + 1) 1 0 (by omega) _ _ ls (lv_sub hl [2, 3, 1, 0] rfl) hP hD hS (Nat.lt_succ_self _)
