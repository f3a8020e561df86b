set_option maxHeartbeats 4000000 in
set_option maxRecDepth 100000 in
theorem e_Mo_besideLeast (l : Launch) (dC : Nat → ClassId) (dI : Nat → Nat → Nat) (cI cL cZ : ClassId) (sz : Nat) (m0 : Nat) (m1 : Nat) (m2 : Nat) (m3 : Nat) (m4 : Nat) (m5 : Nat) (m6 : Nat) (m7 : Nat) (m8 : Nat) (m9 : Nat) (m10 : Nat) (m11 : Nat) (m12 : Nat) (m13 : Nat) (m14 : Nat) (m15 : Nat) (m16 : Nat) (m17 : Nat) (mth : Int32) (mt : Nat) (mf : Int32) (mcd : Nat) (mev : Nat) (mwh : Int32) (mps : Int32) (mlr : Int64) (mlt : Nat) (mlm : Nat) (mln : Int32) (gbs : Nat → Int64) (gle : Nat → Int32) (L : List Nat) (co : Nat → Nat → Bool) (hcd : mcd ≤ 60) (hlm8 : mlm ≤ 8) (hlm : mlm = L.length) (hCg : ChI gle L) (hLd : ∀ c ∈ L, c < mcd) (hBs : ∀ c, c < mcd → B64 (gbs c) (fun d => d < mcd ∧ co c d = true)) : Met l y_Mo_besideLeast (Cond.code y_Mo_besideLeast prog_11_method_25_code 4 (some .long) :: wsA) { frames := 0, cells := 0, slots := 0, locals := 0 } (va_Pc [.ref m0] (fun U => U.heap.size = sz ∧ va_P (dC, dI) clA [(m0, .inr (9, [.int mth, .int (nI mt), .ref m1, .ref m2, .int mf, .int (nI mcd), .ref m3, .ref m4, .ref m5, .ref m6, .int (nI mev), .ref m7, .ref m8, .ref m9, .ref m10, .ref m11, .ref m12, .ref m13, .int mwh, .int mps, .ref m14, .ref m15, .long mlr, .int (nI mlt), .int (nI mlm), .ref m16, .int mln, .ref m17])), (m6, .inl (cL, 60, .inr (.inl gbs))), (m16, .inl (cI, 8, .inl gle))] U.heap ∧ va_K (dC, dI) clA [(cI, .int), (cL, .long), (cZ, .boolean)] U ∧ va_D (fun _ => True) [(m0, .inr (9, [.int mth, .int (nI mt), .ref m1, .ref m2, .int mf, .int (nI mcd), .ref m3, .ref m4, .ref m5, .ref m6, .int (nI mev), .ref m7, .ref m8, .ref m9, .ref m10, .ref m11, .ref m12, .ref m13, .int mwh, .int mps, .ref m14, .ref m15, .long mlr, .int (nI mlt), .int (nI mlm), .ref m16, .int mln, .ref m17])), (m6, .inl (cL, 60, .inr (.inl gbs))), (m16, .inl (cI, 8, .inl gle))] ∧ NwA U)) (va_Ql (fun r (_ : Unit) => (B64 r (fun f => f < mcd ∧ ∀ c ∈ L, (f < mcd ∧ co c f = true)))) (fun _ t => va_P (dC, dI) clA [(m0, .inr (9, [.int mth, .int (nI mt), .ref m1, .ref m2, .int mf, .int (nI mcd), .ref m3, .ref m4, .ref m5, .ref m6, .int (nI mev), .ref m7, .ref m8, .ref m9, .ref m10, .ref m11, .ref m12, .ref m13, .int mwh, .int mps, .ref m14, .ref m15, .long mlr, .int (nI mlt), .int (nI mlm), .ref m16, .int mln, .ref m17])), (m6, .inl (cL, 60, .inr (.inl gbs))), (m16, .inl (cI, 8, .inl gle))] t.heap ∧ va_D (va_A [(m0, .inr (9, [.int mth, .int (nI mt), .ref m1, .ref m2, .int mf, .int (nI mcd), .ref m3, .ref m4, .ref m5, .ref m6, .int (nI mev), .ref m7, .ref m8, .ref m9, .ref m10, .ref m11, .ref m12, .ref m13, .int mwh, .int mps, .ref m14, .ref m15, .long mlr, .int (nI mlt), .int (nI mlm), .ref m16, .int mln, .ref m17])), (m6, .inl (cL, 60, .inr (.inl gbs))), (m16, .inl (cI, 8, .inl gle))] sz) [(m0, .inr (9, [.int mth, .int (nI mt), .ref m1, .ref m2, .int mf, .int (nI mcd), .ref m3, .ref m4, .ref m5, .ref m6, .int (nI mev), .ref m7, .ref m8, .ref m9, .ref m10, .ref m11, .ref m12, .ref m13, .int mwh, .int mps, .ref m14, .ref m15, .long mlr, .int (nI mlt), .int (nI mlm), .ref m16, .int mln, .ref m17])), (m6, .inl (cL, 60, .inr (.inl gbs))), (m16, .inl (cI, 8, .inl gle))]) (va_A [(m0, .inr (9, [.int mth, .int (nI mt), .ref m1, .ref m2, .int mf, .int (nI mcd), .ref m3, .ref m4, .ref m5, .ref m6, .int (nI mev), .ref m7, .ref m8, .ref m9, .ref m10, .ref m11, .ref m12, .ref m13, .int mwh, .int mps, .ref m14, .ref m15, .long mlr, .int (nI mlt), .int (nI mlm), .ref m16, .int mln, .ref m17])), (m6, .inl (cL, 60, .inr (.inl gbs))), (m16, .inl (cI, 8, .inl gle))] sz)) 0 0 (va_A [(m0, .inr (9, [.int mth, .int (nI mt), .ref m1, .ref m2, .int mf, .int (nI mcd), .ref m3, .ref m4, .ref m5, .ref m6, .int (nI mev), .ref m7, .ref m8, .ref m9, .ref m10, .ref m11, .ref m12, .ref m13, .int mwh, .int mps, .ref m14, .ref m15, .long mlr, .int (nI mlt), .int (nI mlm), .ref m16, .int mln, .ref m17])), (m6, .inl (cL, 60, .inr (.inl gbs))), (m16, .inl (cI, 8, .inl gle))] sz) := by
  refine Met.ofW (cc := prog_11_method_25_code) (maxL := 4) (ret := (some .long)) (by decide) rfl ?_
  intro p e s m args below meth c s₁ B hml hv
  obtain ⟨rfl, hsz, hP, hK, hD0, hN⟩ := hv
  have hx := B.exec
  have hb := B.bytes
  have hr := B.returns
  have ht : ∀ w ∈ wsA, w.before _ s = true := fun w h => atoms_spec (ws := (Cond.code y_Mo_besideLeast prog_11_method_25_code 4 (some .long) :: wsA)) B.pre w (List.mem_cons_of_mem _ h)
  have hown : s.vm.findClass "NetUnfolderModel" = some m.cls := findClass_of_methodNamed B.named
  have hlocks := B.notSynchronized
  subst hsz
  have hD := hD0.self (sz := s.heap.size)
  generalize hAe : va_A [(m0, .inr (9, [.int mth, .int (nI mt), .ref m1, .ref m2, .int mf, .int (nI mcd), .ref m3, .ref m4, .ref m5, .ref m6, .int (nI mev), .ref m7, .ref m8, .ref m9, .ref m10, .ref m11, .ref m12, .ref m13, .int mwh, .int mps, .ref m14, .ref m15, .long mlr, .int (nI mlt), .int (nI mlm), .ref m16, .int mln, .ref m17])), (m6, .inl (cL, 60, .inr (.inl gbs))), (m16, .inl (cI, 8, .inl gle))] s.heap.size = A at hD ⊢
  have hA : ∀ q : Nat, s.heap.size ≤ q → A q := fun q h => by rw [← hAe]; exact Or.inr h
  have hS : va_S A s.heap s.heap [] := va_S.rf
  have hl := lv_entry ([.ref m0]) (n := 4) (Nat.le_of_ble_eq_true rfl)
  rw [lg_entry_eq]
  generalize (lg_sl ([.ref m0]) ++ List.replicate (4 - (lg_sl ([.ref m0])).length) Slot.unset).toArray = ls at hl ⊢
  replace hl : lv_has ls 4 [(0, .ref m0)] := hl
  refine W_Q (fun Q hQ => ?_)
  refine lv_lconst (v := 1) hx hb d_Mo_besideLeast_0 (by decide) ?_
  refine lv_aload_n hx hb d_Mo_besideLeast_1 rfl (lv_at hl 0 rfl) ?_
  refine va_get (D := (dC, dI)) (ci := 9) (v := .int (nI mcd)) (C := "NetUnfolderModel") (T := T_Mo) (N := 28) hx hb ht in_Mo hown hK hP 0 rfl rfl 5 (by decide) (ht _ wd_4_5) (fun _ h9 => h9) rfl d_Mo_besideLeast_2 ?_
  refine lv_lshl (v := 1 <<< (Int32.toInt64 (nI mcd) &&& 63)) hx hb d_Mo_besideLeast_5 rfl ?_
  refine lv_lconst (v := 1) hx hb d_Mo_besideLeast_6 (by decide) ?_
  refine lv_lsub hx hb d_Mo_besideLeast_7 ?_
  refine lv_lstore_n (lv' := [(1, .long ((1 <<< (Int32.toInt64 (nI mcd) &&& 63)) - 1)), (0, .ref m0)]) hx hb d_Mo_besideLeast_8 rfl hl (by decide) rfl (fun ls hln => ?_)
  replace hl : lv_has ls 4 [(1, .long ((1 <<< (Int32.toInt64 (nI mcd) &&& 63)) - 1)), (0, .ref m0)] := hln
  clear hln
  refine lv_iconst (v := 0) hx hb d_Mo_besideLeast_9 (by decide) ?_
  refine lv_istore_n (lv' := [(3, .int 0), (1, .long ((1 <<< (Int32.toInt64 (nI mcd) &&& 63)) - 1)), (0, .ref m0)]) hx hb d_Mo_besideLeast_10 rfl hl (by decide) rfl (fun ls hln => ?_)
  replace hl : lv_has ls 4 [(3, .int 0), (1, .long ((1 <<< (Int32.toInt64 (nI mcd) &&& 63)) - 1)), (0, .ref m0)] := hln
  clear hln
  have hloop1 : ∀ (n11 : Nat) (v : Int64) (i : Nat) (hi : i ≤ mlm) (hv : B64 v (fun f => f < mcd ∧ ∀ q, q < i → (∃ (h : q < L.length), (f < mcd ∧ co (L[q]) f = true)) )) (H : Heap) (locs : List Loc) (ls : Array Slot) (hl : lv_has ls 4 [(0, .ref m0), (1, .long v), (3, .int (nI i))]) (hP : va_P (dC, dI) clA [(m0, .inr (9, [.int mth, .int (nI mt), .ref m1, .ref m2, .int mf, .int (nI mcd), .ref m3, .ref m4, .ref m5, .ref m6, .int (nI mev), .ref m7, .ref m8, .ref m9, .ref m10, .ref m11, .ref m12, .ref m13, .int mwh, .int mps, .ref m14, .ref m15, .long mlr, .int (nI mlt), .int (nI mlm), .ref m16, .int mln, .ref m17])), (m6, .inl (cL, 60, .inr (.inl gbs))), (m16, .inl (cI, 8, .inl gle))] H) (hD : va_D A [(m0, .inr (9, [.int mth, .int (nI mt), .ref m1, .ref m2, .int mf, .int (nI mcd), .ref m3, .ref m4, .ref m5, .ref m6, .int (nI mev), .ref m7, .ref m8, .ref m9, .ref m10, .ref m11, .ref m12, .ref m13, .int mwh, .int mps, .ref m14, .ref m15, .long mlr, .int (nI mlt), .int (nI mlm), .ref m16, .int mln, .ref m17])), (m6, .inl (cL, 60, .inr (.inl gbs))), (m16, .inl (cI, 8, .inl gle))]) (hS : va_S A s.heap H locs) (hm11 : mlm - i < n11), W p l e (headSpec (Cond.code y_Mo_besideLeast prog_11_method_25_code 4 (some .long) :: wsA) { frames := 0, cells := 0, slots := 0, locals := 0 }).room s m ([.ref m0] : List Value).toArray below meth c H locs 0 0 Q (F0 m 11 ls []) := by
    clear hl hP hD hS
    intro n11
    induction n11 with
    | zero => intro v i hi hv H locs ls hl hP hD hS hm; exact absurd hm (Nat.not_lt_zero _)
    | succ n11 hloop1_ih =>
      intro v i hi hv H locs ls hl hP hD hS hm11
      refine lv_iload_n hx hb d_Mo_besideLeast_11 rfl (lv_at hl 2 rfl) ?_
      refine lv_aload_n hx hb d_Mo_besideLeast_12 rfl (lv_at hl 0 rfl) ?_
      refine va_get (D := (dC, dI)) (ci := 9) (v := .int (nI mlm)) (C := "NetUnfolderModel") (T := T_Mo) (N := 28) hx hb ht in_Mo hown hK hP 0 rfl rfl 24 (by decide) (ht _ wd_4_24) (fun _ h9 => h9) rfl d_Mo_besideLeast_13 ?_
      refine lv_icmp_ge (tgt := 39) hx hb d_Mo_besideLeast_16 (by decide) (fun hb2 => ?_) (fun hb2 => ?_)
      · skip
        replace hb2 := cv_le (a := mlm) (b := i) (by omega) (by omega) hb2
        refine lv_lload_n hx hb d_Mo_besideLeast_39 rfl (lv_at hl 1 rfl) ?_
        have hP9 := hP.sub (ws' := [(m0, .inr (9, [.int mth, .int (nI mt), .ref m1, .ref m2, .int mf, .int (nI mcd), .ref m3, .ref m4, .ref m5, .ref m6, .int (nI mev), .ref m7, .ref m8, .ref m9, .ref m10, .ref m11, .ref m12, .ref m13, .int mwh, .int mps, .ref m14, .ref m15, .long mlr, .int (nI mlt), .int (nI mlm), .ref m16, .int mln, .ref m17])), (m6, .inl (cL, 60, .inr (.inl gbs))), (m16, .inl (cI, 8, .inl gle))]) [0, 1, 2] rfl
        have hD9 := hD.sub (ws' := [(m0, .inr (9, [.int mth, .int (nI mt), .ref m1, .ref m2, .int mf, .int (nI mcd), .ref m3, .ref m4, .ref m5, .ref m6, .int (nI mev), .ref m7, .ref m8, .ref m9, .ref m10, .ref m11, .ref m12, .ref m13, .int mwh, .int mps, .ref m14, .ref m15, .long mlr, .int (nI mlt), .int (nI mlm), .ref m16, .int mln, .ref m17])), (m6, .inl (cL, 60, .inr (.inl gbs))), (m16, .inl (cI, 8, .inl gle))]) [0, 1, 2] (by decide) rfl
        subst hQ
        exact W.lret (v := v) hx hb hr (fun t9 ht9 hW => ⟨⟨v, (), rfl, (hv.congr (fun f => and_congr_right (fun _ => bl_all (i := i) (p := fun c => f < mcd ∧ co c f = true) (by omega)))), by rw [ht9]; exact hP9, hD9⟩, hS.F ht9⟩) hS.2.2 d_Mo_besideLeast_40
      · skip
        replace hb2 := cv_nle (a := mlm) (b := i) (by omega) (by omega) hb2
        refine lv_lload_n hx hb d_Mo_besideLeast_19 rfl (lv_at hl 1 rfl) ?_
        refine lv_aload_n hx hb d_Mo_besideLeast_20 rfl (lv_at hl 0 rfl) ?_
        refine va_get (D := (dC, dI)) (ci := 9) (v := .ref m6) (C := "NetUnfolderModel") (T := T_Mo) (N := 28) hx hb ht in_Mo hown hK hP 0 rfl rfl 9 (by decide) (ht _ wd_4_9) (fun _ h9 => h9) rfl d_Mo_besideLeast_21 ?_
        refine lv_aload_n hx hb d_Mo_besideLeast_24 rfl (lv_at hl 0 rfl) ?_
        refine va_get (D := (dC, dI)) (ci := 9) (v := .ref m16) (C := "NetUnfolderModel") (T := T_Mo) (N := 28) hx hb ht in_Mo hown hK hP 0 rfl rfl 25 (by decide) (ht _ wd_4_25) (fun _ h9 => h9) rfl d_Mo_besideLeast_25 ?_
        refine lv_iload_n hx hb d_Mo_besideLeast_28 rfl (lv_at hl 2 rfl) ?_
        refine na_iald (k := i) hx hb hK hP 2 0 rfl rfl (by omega) (by decide) d_Mo_besideLeast_29 ?_
        refine ci_i (y := nI (L[i])) (hCg i (by omega)).1 ?_
        have hLi := hLd _ (List.getElem_mem (show i < L.length from by omega))
        refine na_lald (k := (L[i])) hx hb hK hP 1 1 rfl rfl (by omega) (by decide) d_Mo_besideLeast_30 ?_
        refine lv_land hx hb d_Mo_besideLeast_31 ?_
        refine lv_lstore_n (lv' := [(1, .long (v &&& (gbs (L[i])))), (0, .ref m0), (3, .int (nI i))]) hx hb d_Mo_besideLeast_32 rfl hl (by decide) rfl (fun ls hln => ?_)
        replace hl : lv_has ls 4 [(1, .long (v &&& (gbs (L[i])))), (0, .ref m0), (3, .int (nI i))] := hln
        clear hln
        refine lv_iinc (k := 2) (v := nI (i + 1)) (lv' := [(3, .int (nI (i + 1))), (1, .long (v &&& (gbs (L[i])))), (0, .ref m0)]) hx hb d_Mo_besideLeast_33 hl rfl (nI_1 _) (by decide) rfl (fun ls hln => ?_)
        replace hl : lv_has ls 4 [(3, .int (nI (i + 1))), (1, .long (v &&& (gbs (L[i])))), (0, .ref m0)] := hln
        clear hln
        refine lv_goto (tgt := 11) hx hb d_Mo_besideLeast_36 (by decide) ?_
        exact hloop1_ih (v &&& (gbs (L[i]))) (i + 1) (by first | assumption | omega | trivial | exact AllLt.zero | exact AllN.zero | exact AllM.zero | exact Or.inl rfl | exact Or.inr rfl) (l64_and hv ((hBs _ hLi).congr (fun f => ⟨fun q => ⟨by omega, q⟩, fun ⟨_, q⟩ => q⟩))) _ _ ls (lv_sub hl [2, 1, 0] rfl) (hP.sub [0, 1, 2] rfl) (hD.sub [0, 1, 2] (by decide) rfl) hS (by omega)
  exact hloop1 ((mlm - 0) + 1) ((1 <<< (Int32.toInt64 (nI mcd) &&& 63)) - 1) 0 (by first | assumption | omega | trivial | exact AllLt.zero | exact AllN.zero | exact AllM.zero | exact Or.inl rfl | exact Or.inr rfl) (l64_0 (B64.ones (by omega))) _ _ ls (lv_sub hl [2, 1, 0] rfl) hP hD hS (Nat.lt_succ_self _)

set_option maxHeartbeats 4000000 in
set_option maxRecDepth 100000 in
theorem e_Mo_twice (l : Launch) (dC : Nat → ClassId) (dI : Nat → Nat → Nat) (cI cL cZ : ClassId) (sz : Nat) (m0 : Nat) (m1 : Nat) (m2 : Nat) (m3 : Nat) (m4 : Nat) (m5 : Nat) (m6 : Nat) (m7 : Nat) (m8 : Nat) (m9 : Nat) (m10 : Nat) (m11 : Nat) (m12 : Nat) (m13 : Nat) (m14 : Nat) (m15 : Nat) (m16 : Nat) (m17 : Nat) (mth : Int32) (mt : Nat) (mf : Int32) (mcd : Nat) (mev : Nat) (mwh : Int32) (mps : Int32) (mlr : Int64) (mlt : Nat) (mlm : Nat) (mln : Int32) (mq : Nat → Int32) (gpl : Nat → Int32) (gbs : Nat → Int64) (gle : Nat → Int32) (L : List Nat) (co : Nat → Nat → Bool) (po : Nat → Bool) (pl : Nat → Nat) (n : Nat) (hcd : mcd ≤ 60) (hlt : mlt < 8) (hlm8 : mlm ≤ 8) (hlm : mlm = L.length) (hCg : ChI gle L) (hLd : ∀ c ∈ L, c < mcd) (hBs : ∀ c, c < mcd → B64 (gbs c) (fun d => d < mcd ∧ co c d = true)) (hPla : PlaI mcd gpl pl) (hn : n < 256) (hq9 : mq mlt = nI n) (hpo : ∀ p, p < 8 → po p = n.testBit p) : Met l y_Mo_twice (Cond.code y_Mo_twice prog_11_method_26_code 4 (some .int) :: wsA) { frames := 1, cells := 0, slots := 0, locals := 23 } (va_Pc [.ref m0] (fun U => U.heap.size = sz ∧ va_P (dC, dI) clA [(m0, .inr (9, [.int mth, .int (nI mt), .ref m1, .ref m2, .int mf, .int (nI mcd), .ref m3, .ref m4, .ref m5, .ref m6, .int (nI mev), .ref m7, .ref m8, .ref m9, .ref m10, .ref m11, .ref m12, .ref m13, .int mwh, .int mps, .ref m14, .ref m15, .long mlr, .int (nI mlt), .int (nI mlm), .ref m16, .int mln, .ref m17])), (m2, .inl (cI, 8, .inl mq)), (m3, .inl (cI, 60, .inl gpl)), (m6, .inl (cL, 60, .inr (.inl gbs))), (m16, .inl (cI, 8, .inl gle))] U.heap ∧ va_K (dC, dI) clA [(cI, .int), (cL, .long), (cZ, .boolean)] U ∧ va_D (fun _ => True) [(m0, .inr (9, [.int mth, .int (nI mt), .ref m1, .ref m2, .int mf, .int (nI mcd), .ref m3, .ref m4, .ref m5, .ref m6, .int (nI mev), .ref m7, .ref m8, .ref m9, .ref m10, .ref m11, .ref m12, .ref m13, .int mwh, .int mps, .ref m14, .ref m15, .long mlr, .int (nI mlt), .int (nI mlm), .ref m16, .int mln, .ref m17])), (m2, .inl (cI, 8, .inl mq)), (m3, .inl (cI, 60, .inl gpl)), (m6, .inl (cL, 60, .inr (.inl gbs))), (m16, .inl (cI, 8, .inl gle))] ∧ NwA U)) (va_Qi (fun r (_ : Unit) => ((r = -1 ∧ ¬ (∃ d, d < mcd ∧ (∀ c ∈ L, (d < mcd ∧ co c d = true)) ∧ po (pl d) = true)) ∨ ((∃ d, d < mcd ∧ (∀ c ∈ L, (d < mcd ∧ co c d = true)) ∧ po (pl d) = true) ∧ ∃ d, d < mcd ∧ r = nI d))) (fun _ t => va_P (dC, dI) clA [(m0, .inr (9, [.int mth, .int (nI mt), .ref m1, .ref m2, .int mf, .int (nI mcd), .ref m3, .ref m4, .ref m5, .ref m6, .int (nI mev), .ref m7, .ref m8, .ref m9, .ref m10, .ref m11, .ref m12, .ref m13, .int mwh, .int mps, .ref m14, .ref m15, .long mlr, .int (nI mlt), .int (nI mlm), .ref m16, .int mln, .ref m17])), (m2, .inl (cI, 8, .inl mq)), (m3, .inl (cI, 60, .inl gpl)), (m6, .inl (cL, 60, .inr (.inl gbs))), (m16, .inl (cI, 8, .inl gle))] t.heap ∧ va_D (va_A [(m0, .inr (9, [.int mth, .int (nI mt), .ref m1, .ref m2, .int mf, .int (nI mcd), .ref m3, .ref m4, .ref m5, .ref m6, .int (nI mev), .ref m7, .ref m8, .ref m9, .ref m10, .ref m11, .ref m12, .ref m13, .int mwh, .int mps, .ref m14, .ref m15, .long mlr, .int (nI mlt), .int (nI mlm), .ref m16, .int mln, .ref m17])), (m2, .inl (cI, 8, .inl mq)), (m3, .inl (cI, 60, .inl gpl)), (m6, .inl (cL, 60, .inr (.inl gbs))), (m16, .inl (cI, 8, .inl gle))] sz) [(m0, .inr (9, [.int mth, .int (nI mt), .ref m1, .ref m2, .int mf, .int (nI mcd), .ref m3, .ref m4, .ref m5, .ref m6, .int (nI mev), .ref m7, .ref m8, .ref m9, .ref m10, .ref m11, .ref m12, .ref m13, .int mwh, .int mps, .ref m14, .ref m15, .long mlr, .int (nI mlt), .int (nI mlm), .ref m16, .int mln, .ref m17])), (m2, .inl (cI, 8, .inl mq)), (m3, .inl (cI, 60, .inl gpl)), (m6, .inl (cL, 60, .inr (.inl gbs))), (m16, .inl (cI, 8, .inl gle))]) (va_A [(m0, .inr (9, [.int mth, .int (nI mt), .ref m1, .ref m2, .int mf, .int (nI mcd), .ref m3, .ref m4, .ref m5, .ref m6, .int (nI mev), .ref m7, .ref m8, .ref m9, .ref m10, .ref m11, .ref m12, .ref m13, .int mwh, .int mps, .ref m14, .ref m15, .long mlr, .int (nI mlt), .int (nI mlm), .ref m16, .int mln, .ref m17])), (m2, .inl (cI, 8, .inl mq)), (m3, .inl (cI, 60, .inl gpl)), (m6, .inl (cL, 60, .inr (.inl gbs))), (m16, .inl (cI, 8, .inl gle))] sz)) 0 0 (va_A [(m0, .inr (9, [.int mth, .int (nI mt), .ref m1, .ref m2, .int mf, .int (nI mcd), .ref m3, .ref m4, .ref m5, .ref m6, .int (nI mev), .ref m7, .ref m8, .ref m9, .ref m10, .ref m11, .ref m12, .ref m13, .int mwh, .int mps, .ref m14, .ref m15, .long mlr, .int (nI mlt), .int (nI mlm), .ref m16, .int mln, .ref m17])), (m2, .inl (cI, 8, .inl mq)), (m3, .inl (cI, 60, .inl gpl)), (m6, .inl (cL, 60, .inr (.inl gbs))), (m16, .inl (cI, 8, .inl gle))] sz) := by
  refine Met.ofW (cc := prog_11_method_26_code) (maxL := 4) (ret := (some .int)) (by decide) rfl ?_
  intro p e s m args below meth c s₁ B hml hv
  obtain ⟨rfl, hsz, hP, hK, hD0, hN⟩ := hv
  have hx := B.exec
  have hb := B.bytes
  have hr := B.returns
  have ht : ∀ w ∈ wsA, w.before _ s = true := fun w h => atoms_spec (ws := (Cond.code y_Mo_twice prog_11_method_26_code 4 (some .int) :: wsA)) B.pre w (List.mem_cons_of_mem _ h)
  have hown : s.vm.findClass "NetUnfolderModel" = some m.cls := findClass_of_methodNamed B.named
  have hlocks := B.notSynchronized
  subst hsz
  have hD := hD0.self (sz := s.heap.size)
  generalize hAe : va_A [(m0, .inr (9, [.int mth, .int (nI mt), .ref m1, .ref m2, .int mf, .int (nI mcd), .ref m3, .ref m4, .ref m5, .ref m6, .int (nI mev), .ref m7, .ref m8, .ref m9, .ref m10, .ref m11, .ref m12, .ref m13, .int mwh, .int mps, .ref m14, .ref m15, .long mlr, .int (nI mlt), .int (nI mlm), .ref m16, .int mln, .ref m17])), (m2, .inl (cI, 8, .inl mq)), (m3, .inl (cI, 60, .inl gpl)), (m6, .inl (cL, 60, .inr (.inl gbs))), (m16, .inl (cI, 8, .inl gle))] s.heap.size = A at hD ⊢
  have hA : ∀ q : Nat, s.heap.size ≤ q → A q := fun q h => by rw [← hAe]; exact Or.inr h
  have hS : va_S A s.heap s.heap [] := va_S.rf
  have hl := lv_entry ([.ref m0]) (n := 4) (Nat.le_of_ble_eq_true rfl)
  rw [lg_entry_eq]
  generalize (lg_sl ([.ref m0]) ++ List.replicate (4 - (lg_sl ([.ref m0])).length) Slot.unset).toArray = ls at hl ⊢
  replace hl : lv_has ls 4 [(0, .ref m0)] := hl
  refine W_Q (fun Q hQ => ?_)
  refine lv_aload_n hx hb d_Mo_twice_0 rfl (lv_at hl 0 rfl) ?_
  have hPc := hP.sub (ws' := [(m0, .inr (9, [.int mth, .int (nI mt), .ref m1, .ref m2, .int mf, .int (nI mcd), .ref m3, .ref m4, .ref m5, .ref m6, .int (nI mev), .ref m7, .ref m8, .ref m9, .ref m10, .ref m11, .ref m12, .ref m13, .int mwh, .int mps, .ref m14, .ref m15, .long mlr, .int (nI mlt), .int (nI mlm), .ref m16, .int mln, .ref m17])), (m6, .inl (cL, 60, .inr (.inl gbs))), (m16, .inl (cI, 8, .inl gle))]) [0, 3, 4] rfl
  have hDc := hD.sub (ws' := [(m0, .inr (9, [.int mth, .int (nI mt), .ref m1, .ref m2, .int mf, .int (nI mcd), .ref m3, .ref m4, .ref m5, .ref m6, .int (nI mev), .ref m7, .ref m8, .ref m9, .ref m10, .ref m11, .ref m12, .ref m13, .int mwh, .int mps, .ref m14, .ref m15, .long mlr, .int (nI mlt), .int (nI mlm), .ref m16, .int mln, .ref m17])), (m6, .inl (cL, 60, .inr (.inl gbs))), (m16, .inl (cI, 8, .inl gle))]) [0, 3, 4] (by decide) rfl
  have hFc := va_free (wc := [(m0, .inr (9, [.int mth, .int (nI mt), .ref m1, .ref m2, .int mf, .int (nI mcd), .ref m3, .ref m4, .ref m5, .ref m6, .int (nI mev), .ref m7, .ref m8, .ref m9, .ref m10, .ref m11, .ref m12, .ref m13, .int mwh, .int mps, .ref m14, .ref m15, .long mlr, .int (nI mlt), .int (nI mlm), .ref m16, .int mln, .ref m17])), (m6, .inl (cL, 60, .inr (.inl gbs))), (m16, .inl (cI, 8, .inl gle))]) hD hS hA [0, 3, 4] rfl
  refine va_calll (va_runV (C := "NetUnfolderModel") (As := []) (rest := []) ⟨hx, hb, hml, hown, ht⟩ (e_Mo_besideLeast l dC dI cI cL cZ _ m0 m1 m2 m3 m4 m5 m6 m7 m8 m9 m10 m11 m12 m13 m14 m15 m16 m17 mth mt mf mcd mev mwh mps mlr mlt mlm mln gbs gle L co (by first | assumption | omega | trivial | exact AllLt.zero | exact AllN.zero | exact AllM.zero | exact Or.inl rfl | exact Or.inr rfl) (by first | assumption | omega | trivial | exact AllLt.zero | exact AllN.zero | exact AllM.zero | exact Or.inl rfl | exact Or.inr rfl) (by first | assumption | omega | trivial | exact AllLt.zero | exact AllN.zero | exact AllM.zero | exact Or.inl rfl | exact Or.inr rfl) (by first | assumption | omega | trivial | exact AllLt.zero | exact AllN.zero | exact AllM.zero | exact Or.inl rfl | exact Or.inr rfl) (by first | assumption | omega | trivial | exact AllLt.zero | exact AllN.zero | exact AllM.zero | exact Or.inl rfl | exact Or.inr rfl) (by first | assumption | omega | trivial | exact AllLt.zero | exact AllN.zero | exact AllM.zero | exact Or.inl rfl | exact Or.inr rfl)) (cwV 0 ht (good_V wd_4_169 wd_4_171 ws_Mo_besideLeast wd_1_10 wd_4_172) rfl rfl rfl (by decide +kernel) ⟨Nat.le_of_ble_eq_true rfl, Nat.le_of_ble_eq_true rfl⟩) ⟨fun a U g mk q => by obtain ⟨q0, q1, qP, qK, qD, qN⟩ := q; exact ⟨q0, q1, qP, va_K.moved (u := U) (U := U.calling g mk a) (Vm.Alike.refl U.vm) qK, qD, NwA.same (u := U) rfl qN⟩, (va_recv (q0 := 0) (ci := 9) hK hP rfl rfl), fun U hU hW => ⟨rfl, by rw [hU], by rw [hU]; exact hPc, va_K.moved hW.alike hK, hDc.weaken (fun _ _ _ _ => trivial), NwA.warm hW hN⟩⟩ rfl rfl hl.1 rfl (lv_room (Nat.le_of_ble_eq_true rfl)) d_Mo_twice_1 ⟨Nat.le_of_ble_eq_true rfl, Nat.le_of_ble_eq_true rfl⟩) hS (fun q _ h => hFc q h) hFc (fun r3 u9 t9 H1 locs ht9 hvm hw2 hB hz1 hk1 hSn => ?_)
  obtain ⟨hP1, hD1⟩ := hB
  rw [ht9] at hP1
  obtain ⟨hPn, hDn⟩ := va_join (wr := [(m2, .inl (cI, 8, .inl mq)), (m3, .inl (cI, 60, .inl gpl))]) (w1 := [(m0, .inr (9, [.int mth, .int (nI mt), .ref m1, .ref m2, .int mf, .int (nI mcd), .ref m3, .ref m4, .ref m5, .ref m6, .int (nI mev), .ref m7, .ref m8, .ref m9, .ref m10, .ref m11, .ref m12, .ref m13, .int mwh, .int mps, .ref m14, .ref m15, .long mlr, .int (nI mlt), .int (nI mlm), .ref m16, .int mln, .ref m17])), (m6, .inl (cL, 60, .inr (.inl gbs))), (m16, .inl (cI, 8, .inl gle))]) hP hD [0, 3, 4] [1, 2] rfl rfl (by decide) (by decide) hk1 hFc hP1 hD1
  replace hP : va_P (dC, dI) clA [(m2, .inl (cI, 8, .inl mq)), (m3, .inl (cI, 60, .inl gpl)), (m0, .inr (9, [.int mth, .int (nI mt), .ref m1, .ref m2, .int mf, .int (nI mcd), .ref m3, .ref m4, .ref m5, .ref m6, .int (nI mev), .ref m7, .ref m8, .ref m9, .ref m10, .ref m11, .ref m12, .ref m13, .int mwh, .int mps, .ref m14, .ref m15, .long mlr, .int (nI mlt), .int (nI mlm), .ref m16, .int mln, .ref m17])), (m6, .inl (cL, 60, .inr (.inl gbs))), (m16, .inl (cI, 8, .inl gle))] H1 := hPn
  replace hD : va_D A [(m2, .inl (cI, 8, .inl mq)), (m3, .inl (cI, 60, .inl gpl)), (m0, .inr (9, [.int mth, .int (nI mt), .ref m1, .ref m2, .int mf, .int (nI mcd), .ref m3, .ref m4, .ref m5, .ref m6, .int (nI mev), .ref m7, .ref m8, .ref m9, .ref m10, .ref m11, .ref m12, .ref m13, .int mwh, .int mps, .ref m14, .ref m15, .long mlr, .int (nI mlt), .int (nI mlm), .ref m16, .int mln, .ref m17])), (m6, .inl (cL, 60, .inr (.inl gbs))), (m16, .inl (cI, 8, .inl gle))] := hDn
  replace hS := hSn
  clear hPn hDn hSn
  clear hPc hDc hFc hP1 hD1 hk1 hz1 ht9 hvm
  refine W.cs (cells' := 0) (slots' := 0) rfl rfl ?_
  have hr4 := hw2
  have hbl := hr4
  refine lv_lstore_n (lv' := [(1, .long r3), (0, .ref m0)]) hx hb d_Mo_twice_4 rfl hl (by decide) rfl (fun ls hln => ?_)
  replace hl : lv_has ls 4 [(1, .long r3), (0, .ref m0)] := hln
  clear hln
  refine lv_iconst (v := 0) hx hb d_Mo_twice_5 (by decide) ?_
  refine lv_istore_n (lv' := [(3, .int 0), (1, .long r3), (0, .ref m0)]) hx hb d_Mo_twice_6 rfl hl (by decide) rfl (fun ls hln => ?_)
  replace hl : lv_has ls 4 [(3, .int 0), (1, .long r3), (0, .ref m0)] := hln
  clear hln
  have hloop5 : ∀ (n7 : Nat) (v : Int64) (i : Nat) (hi : i ≤ mcd) (hv : B64 v (fun f => f < mcd ∧ ∀ c ∈ L, (f < mcd ∧ co c f = true))) (hno : ∀ d, d < i → ¬ ((∀ c ∈ L, (d < mcd ∧ co c d = true)) ∧ po (pl d) = true)) (H : Heap) (locs : List Loc) (ls : Array Slot) (hl : lv_has ls 4 [(0, .ref m0), (1, .long v), (3, .int (nI i))]) (hP : va_P (dC, dI) clA [(m2, .inl (cI, 8, .inl mq)), (m3, .inl (cI, 60, .inl gpl)), (m0, .inr (9, [.int mth, .int (nI mt), .ref m1, .ref m2, .int mf, .int (nI mcd), .ref m3, .ref m4, .ref m5, .ref m6, .int (nI mev), .ref m7, .ref m8, .ref m9, .ref m10, .ref m11, .ref m12, .ref m13, .int mwh, .int mps, .ref m14, .ref m15, .long mlr, .int (nI mlt), .int (nI mlm), .ref m16, .int mln, .ref m17])), (m6, .inl (cL, 60, .inr (.inl gbs))), (m16, .inl (cI, 8, .inl gle))] H) (hD : va_D A [(m2, .inl (cI, 8, .inl mq)), (m3, .inl (cI, 60, .inl gpl)), (m0, .inr (9, [.int mth, .int (nI mt), .ref m1, .ref m2, .int mf, .int (nI mcd), .ref m3, .ref m4, .ref m5, .ref m6, .int (nI mev), .ref m7, .ref m8, .ref m9, .ref m10, .ref m11, .ref m12, .ref m13, .int mwh, .int mps, .ref m14, .ref m15, .long mlr, .int (nI mlt), .int (nI mlm), .ref m16, .int mln, .ref m17])), (m6, .inl (cL, 60, .inr (.inl gbs))), (m16, .inl (cI, 8, .inl gle))]) (hS : va_S A s.heap H locs) (hm7 : mcd - i < n7), W p l e (headSpec (Cond.code y_Mo_twice prog_11_method_26_code 4 (some .int) :: wsA) { frames := 1, cells := 0, slots := 0, locals := 23 }).room s m ([.ref m0] : List Value).toArray below meth c H locs 0 0 Q (F0 m 7 ls []) := by
    clear hl hP hD hS
    intro n7
    induction n7 with
    | zero => intro v i hi hv hno H locs ls hl hP hD hS hm; exact absurd hm (Nat.not_lt_zero _)
    | succ n7 hloop5_ih =>
      intro v i hi hv hno H locs ls hl hP hD hS hm7
      refine lv_iload_n hx hb d_Mo_twice_7 rfl (lv_at hl 2 rfl) ?_
      refine lv_aload_n hx hb d_Mo_twice_8 rfl (lv_at hl 0 rfl) ?_
      refine va_get (D := (dC, dI)) (ci := 9) (v := .int (nI mcd)) (C := "NetUnfolderModel") (T := T_Mo) (N := 28) hx hb ht in_Mo hown hK hP 2 rfl rfl 5 (by decide) (ht _ wd_4_5) (fun _ h9 => h9) rfl d_Mo_twice_9 ?_
      refine lv_icmp_ge (tgt := 53) hx hb d_Mo_twice_12 (by decide) (fun hb6 => ?_) (fun hb6 => ?_)
      · skip
        replace hb6 := cv_le (a := mcd) (b := i) (by omega) (by omega) hb6
        refine lv_iconst (v := (-1)) hx hb d_Mo_twice_53 (by decide) ?_
        have hP9 := hP.sub (ws' := [(m0, .inr (9, [.int mth, .int (nI mt), .ref m1, .ref m2, .int mf, .int (nI mcd), .ref m3, .ref m4, .ref m5, .ref m6, .int (nI mev), .ref m7, .ref m8, .ref m9, .ref m10, .ref m11, .ref m12, .ref m13, .int mwh, .int mps, .ref m14, .ref m15, .long mlr, .int (nI mlt), .int (nI mlm), .ref m16, .int mln, .ref m17])), (m2, .inl (cI, 8, .inl mq)), (m3, .inl (cI, 60, .inl gpl)), (m6, .inl (cL, 60, .inr (.inl gbs))), (m16, .inl (cI, 8, .inl gle))]) [2, 0, 1, 3, 4] rfl
        have hD9 := hD.sub (ws' := [(m0, .inr (9, [.int mth, .int (nI mt), .ref m1, .ref m2, .int mf, .int (nI mcd), .ref m3, .ref m4, .ref m5, .ref m6, .int (nI mev), .ref m7, .ref m8, .ref m9, .ref m10, .ref m11, .ref m12, .ref m13, .int mwh, .int mps, .ref m14, .ref m15, .long mlr, .int (nI mlt), .int (nI mlm), .ref m16, .int mln, .ref m17])), (m2, .inl (cI, 8, .inl mq)), (m3, .inl (cI, 60, .inl gpl)), (m6, .inl (cL, 60, .inr (.inl gbs))), (m16, .inl (cI, 8, .inl gle))]) [2, 0, 1, 3, 4] (by decide) rfl
        subst hQ
        exact W.iret (v := (-1)) hx hb hr (fun t9 ht9 hW => ⟨⟨(-1), (), rfl, (Or.inl ⟨rfl, fun ⟨d, h1, h2, h3⟩ => hno d (by omega) ⟨h2, h3⟩⟩), by rw [ht9]; exact hP9, hD9⟩, hS.F ht9⟩) hS.2.2 d_Mo_twice_54
      · skip
        replace hb6 := cv_nle (a := mcd) (b := i) (by omega) (by omega) hb6
        refine lv_lload_n hx hb d_Mo_twice_15 rfl (lv_at hl 1 rfl) ?_
        refine lv_iload_n hx hb d_Mo_twice_16 rfl (lv_at hl 2 rfl) ?_
        have hPc : va_P (dC, dI) clA [] _ := pu_P (H := H)
        have hDc : va_D (fun _ => True) [] := pu_D
        have hFc := pu_free hS hA
        refine va_calli (va_runS (As := [.long v, .int (nI i)]) (rest := []) ⟨hx, hb, hml, hown, ht⟩ (c_Mo_has l dC dI cI cL cZ _ v i (by first | assumption | omega | trivial | exact AllLt.zero | exact AllN.zero | exact AllM.zero | exact Or.inl rfl | exact Or.inr rfl)) (va_cwS 2 ht (good_S wd_4_121 wd_4_122 wd_1_10 wd_4_123) rfl rfl rfl (by decide +kernel) ⟨Nat.le_of_ble_eq_true rfl, Nat.le_of_ble_eq_true rfl⟩) ⟨fun a U g mk q => by obtain ⟨q0, q1, qP, qK, qD, qN⟩ := q; exact ⟨q0, q1, qP, va_K.moved (u := U) (U := U.calling g mk a) (Vm.Alike.refl U.vm) qK, qD, NwA.same (u := U) rfl qN⟩, fun U hU hW => ⟨rfl, by rw [hU], by rw [hU]; exact hPc, va_K.moved hW.alike hK, hDc.weaken (fun _ _ _ _ => trivial), NwA.warm hW hN⟩⟩ rfl rfl hl.1 rfl (lv_room (Nat.le_of_ble_eq_true rfl)) d_Mo_twice_17 ⟨Nat.le_of_ble_eq_true rfl, Nat.le_of_ble_eq_true rfl⟩) hS (fun q _ h => hFc q h) hFc (fun r9 u9 t9 H7 locs ht9 hvm hw8 hB hz1 hk1 hSn => ?_)
        replace hP : va_P (dC, dI) clA [(m2, .inl (cI, 8, .inl mq)), (m3, .inl (cI, 60, .inl gpl)), (m0, .inr (9, [.int mth, .int (nI mt), .ref m1, .ref m2, .int mf, .int (nI mcd), .ref m3, .ref m4, .ref m5, .ref m6, .int (nI mev), .ref m7, .ref m8, .ref m9, .ref m10, .ref m11, .ref m12, .ref m13, .int mwh, .int mps, .ref m14, .ref m15, .long mlr, .int (nI mlt), .int (nI mlm), .ref m16, .int mln, .ref m17])), (m6, .inl (cL, 60, .inr (.inl gbs))), (m16, .inl (cI, 8, .inl gle))] H7 := pu_keep hP hk1
        replace hS := hSn
        clear hSn hPc hDc hFc hk1 hz1 ht9 hvm hB
        refine W.cs (cells' := 0) (slots' := 0) rfl rfl ?_
        subst hw8
        refine lv_if_eq (tgt := 47) hx hb d_Mo_twice_20 (by decide) (fun hb10 => ?_) (fun hb10 => ?_)
        · skip
          refine lv_iinc (k := 2) (v := nI (i + 1)) (lv' := [(3, .int (nI (i + 1))), (0, .ref m0), (1, .long v)]) hx hb d_Mo_twice_47 hl rfl (nI_1 _) (by decide) rfl (fun ls hln => ?_)
          replace hl : lv_has ls 4 [(3, .int (nI (i + 1))), (0, .ref m0), (1, .long v)] := hln
          clear hln
          refine lv_goto (tgt := 7) hx hb d_Mo_twice_50 (by decide) ?_
          exact hloop5_ih v (i + 1) (by first | assumption | omega | trivial | exact AllLt.zero | exact AllN.zero | exact AllM.zero | exact Or.inl rfl | exact Or.inr rfl) hv (lt_s hno (fun q => hv.has.mp hb10 ⟨by omega, q.1⟩)) _ _ ls (lv_sub hl [1, 2, 0] rfl) (hP.sub [0, 1, 2, 3, 4] rfl) (hD.sub [0, 1, 2, 3, 4] (by decide) rfl) hS (by omega)
        · skip
          have hbi := Classical.byContradiction (fun z9 => hb10 (hv.has.mpr z9))
          refine lv_aload_n hx hb d_Mo_twice_23 rfl (lv_at hl 0 rfl) ?_
          refine va_get (D := (dC, dI)) (ci := 9) (v := .ref m2) (C := "NetUnfolderModel") (T := T_Mo) (N := 28) hx hb ht in_Mo hown hK hP 2 rfl rfl 3 (by decide) (ht _ wd_4_3) (fun _ h9 => h9) rfl d_Mo_twice_24 ?_
          refine lv_aload_n hx hb d_Mo_twice_27 rfl (lv_at hl 0 rfl) ?_
          refine va_get (D := (dC, dI)) (ci := 9) (v := .int (nI mlt)) (C := "NetUnfolderModel") (T := T_Mo) (N := 28) hx hb ht in_Mo hown hK hP 2 rfl rfl 23 (by decide) (ht _ wd_4_23) (fun _ h9 => h9) rfl d_Mo_twice_28 ?_
          refine na_iald (k := mlt) hx hb hK hP 0 0 rfl rfl (by omega) (by decide) d_Mo_twice_31 ?_
          refine ci_i (y := nI n) hq9 ?_
          refine lv_aload_n hx hb d_Mo_twice_32 rfl (lv_at hl 0 rfl) ?_
          refine va_get (D := (dC, dI)) (ci := 9) (v := .ref m3) (C := "NetUnfolderModel") (T := T_Mo) (N := 28) hx hb ht in_Mo hown hK hP 2 rfl rfl 6 (by decide) (ht _ wd_4_6) (fun _ h9 => h9) rfl d_Mo_twice_33 ?_
          refine lv_iload_n hx hb d_Mo_twice_36 rfl (lv_at hl 2 rfl) ?_
          refine na_iald (k := i) hx hb hK hP 1 0 rfl rfl (by omega) (by decide) d_Mo_twice_37 ?_
          refine ci_i (y := nI (pl i)) (hPla i (by omega)).1 ?_
          have hp8 := (hPla i (by omega)).2
          refine lv_ishr hx hb d_Mo_twice_38 ?_
          refine lv_iconst (v := 1) hx hb d_Mo_twice_39 (by decide) ?_
          refine lv_iand hx hb d_Mo_twice_40 ?_
          refine ci_i (y := nI (bN n (pl i))) (bN_eq n (by omega) (pl i) (by omega)) ?_
          have hbN11 := bN_le n (pl i)
          refine lv_iconst (v := 1) hx hb d_Mo_twice_41 (by decide) ?_
          refine lv_icmp_ne (tgt := 47) hx hb d_Mo_twice_42 (by decide) (fun hb12 => ?_) (fun hb12 => ?_)
          · skip
            replace hb12 := cv_ne (a := bN n (pl i)) (b := 1) (by omega) (by omega) hb12
            refine lv_iinc (k := 2) (v := nI (i + 1)) (lv' := [(3, .int (nI (i + 1))), (0, .ref m0), (1, .long v)]) hx hb d_Mo_twice_47 hl rfl (nI_1 _) (by decide) rfl (fun ls hln => ?_)
            replace hl : lv_has ls 4 [(3, .int (nI (i + 1))), (0, .ref m0), (1, .long v)] := hln
            clear hln
            refine lv_goto (tgt := 7) hx hb d_Mo_twice_50 (by decide) ?_
            exact hloop5_ih v (i + 1) (by first | assumption | omega | trivial | exact AllLt.zero | exact AllN.zero | exact AllM.zero | exact Or.inl rfl | exact Or.inr rfl) hv (lt_s hno (fun q => hb12 (bN_1 (by rw [← hpo _ hp8]; exact q.2)))) _ _ ls (lv_sub hl [1, 2, 0] rfl) (hP.sub [0, 1, 2, 3, 4] rfl) (hD.sub [0, 1, 2, 3, 4] (by decide) rfl) hS (by omega)
          · skip
            replace hb12 := cv_eq (a := bN n (pl i)) (b := 1) (by omega) (by omega) hb12
            have hpi : po (pl i) = true := by rw [hpo _ hp8]; exact Classical.byContradiction (fun q => by rw [bN_0 q] at hb12; omega)
            refine lv_iload_n hx hb d_Mo_twice_45 rfl (lv_at hl 2 rfl) ?_
            have hP9 := hP.sub (ws' := [(m0, .inr (9, [.int mth, .int (nI mt), .ref m1, .ref m2, .int mf, .int (nI mcd), .ref m3, .ref m4, .ref m5, .ref m6, .int (nI mev), .ref m7, .ref m8, .ref m9, .ref m10, .ref m11, .ref m12, .ref m13, .int mwh, .int mps, .ref m14, .ref m15, .long mlr, .int (nI mlt), .int (nI mlm), .ref m16, .int mln, .ref m17])), (m2, .inl (cI, 8, .inl mq)), (m3, .inl (cI, 60, .inl gpl)), (m6, .inl (cL, 60, .inr (.inl gbs))), (m16, .inl (cI, 8, .inl gle))]) [2, 0, 1, 3, 4] rfl
            have hD9 := hD.sub (ws' := [(m0, .inr (9, [.int mth, .int (nI mt), .ref m1, .ref m2, .int mf, .int (nI mcd), .ref m3, .ref m4, .ref m5, .ref m6, .int (nI mev), .ref m7, .ref m8, .ref m9, .ref m10, .ref m11, .ref m12, .ref m13, .int mwh, .int mps, .ref m14, .ref m15, .long mlr, .int (nI mlt), .int (nI mlm), .ref m16, .int mln, .ref m17])), (m2, .inl (cI, 8, .inl mq)), (m3, .inl (cI, 60, .inl gpl)), (m6, .inl (cL, 60, .inr (.inl gbs))), (m16, .inl (cI, 8, .inl gle))]) [2, 0, 1, 3, 4] (by decide) rfl
            subst hQ
            exact W.iret (v := nI i) hx hb hr (fun t9 ht9 hW => ⟨⟨nI i, (), rfl, (Or.inr ⟨⟨i, by omega, hbi.2, hpi⟩, i, by omega, rfl⟩), by rw [ht9]; exact hP9, hD9⟩, hS.F ht9⟩) hS.2.2 d_Mo_twice_46
  exact hloop5 ((mcd - 0) + 1) r3 0 (by first | assumption | omega | trivial | exact AllLt.zero | exact AllN.zero | exact AllM.zero | exact Or.inl rfl | exact Or.inr rfl) hbl (fun d hd => absurd hd (Nat.not_lt_zero d)) _ _ ls (lv_sub hl [2, 1, 0] rfl) hP hD hS (Nat.lt_succ_self _)
