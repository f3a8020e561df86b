set_option maxHeartbeats 4000000 in
set_option maxRecDepth 100000 in
theorem e_Mo_rankOf (l : Launch) (dC : Nat → ClassId) (dI : Nat → Nat → Nat) (cI cL cZ : ClassId) (sz : Nat) (m0 : Nat) (m1 : Nat) (m2 : Nat) (m3 : Nat) (m4 : Nat) (m5 : Nat) (m6 : Nat) (m7 : Nat) (m8 : Nat) (m9 : Nat) (m10 : Nat) (m11 : Nat) (m12 : Nat) (m13 : Nat) (m14 : Nat) (m15 : Nat) (m16 : Nat) (m17 : Nat) (mth : Int32) (mt : Nat) (mf : Int32) (mcd : Nat) (mev : Nat) (mwh : Int32) (mps : Int32) (mlr : Int64) (mlt : Nat) (mlm : Nat) (mln : Int32) (gtr : Nat → Int32) (x : Int32) (k : Nat) (X : Nat → Prop) (tr : Nat → Nat) (hev : mev ≤ 30) (hk : k < 8) (hTra : TraI mev gtr tr) (hXB : B32 x X) (hX30 : ∀ a, X a → a < mev) : Met l y_Mo_rankOf (Cond.code y_Mo_rankOf prog_11_method_15_code 11 (some .long) :: wsA) { frames := 1, cells := 0, slots := 0, locals := 22 } (va_Pc [.ref m0, .int x, .int (nI k)] (fun U => U.heap.size = sz ∧ va_P (dC, dI) clA [(m0, .inr (9, [.int mth, .int (nI mt), .ref m1, .ref m2, .int mf, .int (nI mcd), .ref m3, .ref m4, .ref m5, .ref m6, .int (nI mev), .ref m7, .ref m8, .ref m9, .ref m10, .ref m11, .ref m12, .ref m13, .int mwh, .int mps, .ref m14, .ref m15, .long mlr, .int (nI mlt), .int (nI mlm), .ref m16, .int mln, .ref m17])), (m7, .inl (cI, 30, .inl gtr))] U.heap ∧ va_K (dC, dI) clA [(cI, .int), (cL, .long), (cZ, .boolean)] U ∧ va_D (fun _ => True) [(m0, .inr (9, [.int mth, .int (nI mt), .ref m1, .ref m2, .int mf, .int (nI mcd), .ref m3, .ref m4, .ref m5, .ref m6, .int (nI mev), .ref m7, .ref m8, .ref m9, .ref m10, .ref m11, .ref m12, .ref m13, .int mwh, .int mps, .ref m14, .ref m15, .long mlr, .int (nI mlt), .int (nI mlm), .ref m16, .int mln, .ref m17])), (m7, .inl (cI, 30, .inl gtr))] ∧ NwA U)) (va_Ql (fun r (_ : Unit) => (r = lN (keyX X tr k mev (szX X mev + 1) 8 + 2 ^ 40))) (fun _ t => va_P (dC, dI) clA [(m0, .inr (9, [.int mth, .int (nI mt), .ref m1, .ref m2, .int mf, .int (nI mcd), .ref m3, .ref m4, .ref m5, .ref m6, .int (nI mev), .ref m7, .ref m8, .ref m9, .ref m10, .ref m11, .ref m12, .ref m13, .int mwh, .int mps, .ref m14, .ref m15, .long mlr, .int (nI mlt), .int (nI mlm), .ref m16, .int mln, .ref m17])), (m7, .inl (cI, 30, .inl gtr))] t.heap ∧ va_D (va_A [(m0, .inr (9, [.int mth, .int (nI mt), .ref m1, .ref m2, .int mf, .int (nI mcd), .ref m3, .ref m4, .ref m5, .ref m6, .int (nI mev), .ref m7, .ref m8, .ref m9, .ref m10, .ref m11, .ref m12, .ref m13, .int mwh, .int mps, .ref m14, .ref m15, .long mlr, .int (nI mlt), .int (nI mlm), .ref m16, .int mln, .ref m17])), (m7, .inl (cI, 30, .inl gtr))] sz) [(m0, .inr (9, [.int mth, .int (nI mt), .ref m1, .ref m2, .int mf, .int (nI mcd), .ref m3, .ref m4, .ref m5, .ref m6, .int (nI mev), .ref m7, .ref m8, .ref m9, .ref m10, .ref m11, .ref m12, .ref m13, .int mwh, .int mps, .ref m14, .ref m15, .long mlr, .int (nI mlt), .int (nI mlm), .ref m16, .int mln, .ref m17])), (m7, .inl (cI, 30, .inl gtr))]) (va_A [(m0, .inr (9, [.int mth, .int (nI mt), .ref m1, .ref m2, .int mf, .int (nI mcd), .ref m3, .ref m4, .ref m5, .ref m6, .int (nI mev), .ref m7, .ref m8, .ref m9, .ref m10, .ref m11, .ref m12, .ref m13, .int mwh, .int mps, .ref m14, .ref m15, .long mlr, .int (nI mlt), .int (nI mlm), .ref m16, .int mln, .ref m17])), (m7, .inl (cI, 30, .inl gtr))] sz)) 0 0 (va_A [(m0, .inr (9, [.int mth, .int (nI mt), .ref m1, .ref m2, .int mf, .int (nI mcd), .ref m3, .ref m4, .ref m5, .ref m6, .int (nI mev), .ref m7, .ref m8, .ref m9, .ref m10, .ref m11, .ref m12, .ref m13, .int mwh, .int mps, .ref m14, .ref m15, .long mlr, .int (nI mlt), .int (nI mlm), .ref m16, .int mln, .ref m17])), (m7, .inl (cI, 30, .inl gtr))] sz) := by
  refine Met.ofW (cc := prog_11_method_15_code) (maxL := 11) (ret := (some .long)) (by decide) rfl ?_
  intro p e s m args below meth c s₁ B hml hv
  obtain ⟨rfl, hsz, hP, hK, hD0, hN⟩ := hv
  have hx := B.exec
  have hb := B.bytes
  have hr := B.returns
  have ht : ∀ w ∈ wsA, w.before _ s = true := fun w h => atoms_spec (ws := (Cond.code y_Mo_rankOf prog_11_method_15_code 11 (some .long) :: wsA)) B.pre w (List.mem_cons_of_mem _ h)
  have hown : s.vm.findClass "NetUnfolderModel" = some m.cls := findClass_of_methodNamed B.named
  have hlocks := B.notSynchronized
  subst hsz
  have hD := hD0.self (sz := s.heap.size)
  generalize hAe : va_A [(m0, .inr (9, [.int mth, .int (nI mt), .ref m1, .ref m2, .int mf, .int (nI mcd), .ref m3, .ref m4, .ref m5, .ref m6, .int (nI mev), .ref m7, .ref m8, .ref m9, .ref m10, .ref m11, .ref m12, .ref m13, .int mwh, .int mps, .ref m14, .ref m15, .long mlr, .int (nI mlt), .int (nI mlm), .ref m16, .int mln, .ref m17])), (m7, .inl (cI, 30, .inl gtr))] s.heap.size = A at hD ⊢
  have hA : ∀ q : Nat, s.heap.size ≤ q → A q := fun q h => by rw [← hAe]; exact Or.inr h
  have hS : va_S A s.heap s.heap [] := va_S.rf
  have hl := lv_entry ([.ref m0, .int x, .int (nI k)]) (n := 11) (Nat.le_of_ble_eq_true rfl)
  rw [lg_entry_eq]
  generalize (lg_sl ([.ref m0, .int x, .int (nI k)]) ++ List.replicate (11 - (lg_sl ([.ref m0, .int x, .int (nI k)])).length) Slot.unset).toArray = ls at hl ⊢
  replace hl : lv_has ls 11 [(0, .ref m0), (1, .int x), (2, .int (nI k))] := hl
  refine W_Q (fun Q hQ => ?_)
  refine lv_lconst (v := 1) hx hb d_Mo_rankOf_0 (by decide) ?_
  refine lv_lstore_n (lv' := [(3, .long 1), (0, .ref m0), (1, .int x), (2, .int (nI k))]) hx hb d_Mo_rankOf_1 rfl hl (by decide) rfl (fun ls hln => ?_)
  replace hl : lv_has ls 11 [(3, .long 1), (0, .ref m0), (1, .int x), (2, .int (nI k))] := hln
  clear hln
  refine lv_lconst (v := 0) hx hb d_Mo_rankOf_2 (by decide) ?_
  refine lv_lstore (lv' := [(5, .long 0), (3, .long 1), (0, .ref m0), (1, .int x), (2, .int (nI k))]) hx hb d_Mo_rankOf_3 hl (by decide) rfl (fun ls hln => ?_)
  replace hl : lv_has ls 11 [(5, .long 0), (3, .long 1), (0, .ref m0), (1, .int x), (2, .int (nI k))] := hln
  clear hln
  refine lv_iconst (v := 0) hx hb d_Mo_rankOf_5 (by decide) ?_
  refine lv_istore (lv' := [(7, .int 0), (5, .long 0), (3, .long 1), (0, .ref m0), (1, .int x), (2, .int (nI k))]) hx hb d_Mo_rankOf_6 hl (by decide) rfl (fun ls hln => ?_)
  replace hl : lv_has ls 11 [(7, .int 0), (5, .long 0), (3, .long 1), (0, .ref m0), (1, .int x), (2, .int (nI k))] := hln
  clear hln
  have hloop1 : ∀ (n8 : Nat) (v3 : Int64) (v5 : Int64) (i : Nat) (hi : i ≤ 8) (hv3 : v3 = lN (1 + sumC X tr k mev i)) (hv5 : v5 = lN (rowF (cuX X tr k mev) i)) (H : Heap) (locs : List Loc) (ls : Array Slot) (hl : lv_has ls 11 [(0, .ref m0), (1, .int x), (2, .int (nI k)), (3, .long v3), (5, .long v5), (7, .int (nI i))]) (hP : va_P (dC, dI) clA [(m0, .inr (9, [.int mth, .int (nI mt), .ref m1, .ref m2, .int mf, .int (nI mcd), .ref m3, .ref m4, .ref m5, .ref m6, .int (nI mev), .ref m7, .ref m8, .ref m9, .ref m10, .ref m11, .ref m12, .ref m13, .int mwh, .int mps, .ref m14, .ref m15, .long mlr, .int (nI mlt), .int (nI mlm), .ref m16, .int mln, .ref m17])), (m7, .inl (cI, 30, .inl gtr))] H) (hD : va_D A [(m0, .inr (9, [.int mth, .int (nI mt), .ref m1, .ref m2, .int mf, .int (nI mcd), .ref m3, .ref m4, .ref m5, .ref m6, .int (nI mev), .ref m7, .ref m8, .ref m9, .ref m10, .ref m11, .ref m12, .ref m13, .int mwh, .int mps, .ref m14, .ref m15, .long mlr, .int (nI mlt), .int (nI mlm), .ref m16, .int mln, .ref m17])), (m7, .inl (cI, 30, .inl gtr))]) (hS : va_S A s.heap H locs) (hm8 : 8 - i < n8), W p l e (headSpec (Cond.code y_Mo_rankOf prog_11_method_15_code 11 (some .long) :: wsA) { frames := 1, cells := 0, slots := 0, locals := 22 }).room s m ([.ref m0, .int x, .int (nI k)] : List Value).toArray below meth c H locs 0 0 Q (F0 m 8 ls []) := by
    clear hl hP hD hS
    intro n8
    induction n8 with
    | zero => intro v3 v5 i hi hv3 hv5 H locs ls hl hP hD hS hm; exact absurd hm (Nat.not_lt_zero _)
    | succ n8 hloop1_ih =>
      intro v3 v5 i hi hv3 hv5 H locs ls hl hP hD hS hm8
      refine lv_iload hx hb d_Mo_rankOf_8 (lv_at hl 5 rfl) ?_
      refine lv_bipush (v := 8) hx hb d_Mo_rankOf_10 (by decide) ?_
      refine lv_icmp_ge (tgt := 105) hx hb d_Mo_rankOf_12 (by decide) (fun hb2 => ?_) (fun hb2 => ?_)
      · skip
        replace hb2 := cv_le (a := 8) (b := i) (by omega) (by omega) hb2
        refine lv_lload_n hx hb d_Mo_rankOf_105 rfl (lv_at hl 3 rfl) ?_
        refine lv_bipush (v := 40) hx hb d_Mo_rankOf_106 (by decide) ?_
        refine lv_lshl (v := v3 <<< (Int32.toInt64 40 &&& 63)) hx hb d_Mo_rankOf_108 rfl ?_
        refine lv_lload hx hb d_Mo_rankOf_109 (lv_at hl 4 rfl) ?_
        refine lv_lor hx hb d_Mo_rankOf_111 ?_
        have hP9 := hP.sub (ws' := [(m0, .inr (9, [.int mth, .int (nI mt), .ref m1, .ref m2, .int mf, .int (nI mcd), .ref m3, .ref m4, .ref m5, .ref m6, .int (nI mev), .ref m7, .ref m8, .ref m9, .ref m10, .ref m11, .ref m12, .ref m13, .int mwh, .int mps, .ref m14, .ref m15, .long mlr, .int (nI mlt), .int (nI mlm), .ref m16, .int mln, .ref m17])), (m7, .inl (cI, 30, .inl gtr))]) [0, 1] rfl
        have hD9 := hD.sub (ws' := [(m0, .inr (9, [.int mth, .int (nI mt), .ref m1, .ref m2, .int mf, .int (nI mcd), .ref m3, .ref m4, .ref m5, .ref m6, .int (nI mev), .ref m7, .ref m8, .ref m9, .ref m10, .ref m11, .ref m12, .ref m13, .int mwh, .int mps, .ref m14, .ref m15, .long mlr, .int (nI mlt), .int (nI mlm), .ref m16, .int mln, .ref m17])), (m7, .inl (cI, 30, .inl gtr))]) [0, 1] (by decide) rfl
        subst hQ
        exact W.lret (v := (v3 <<< (Int32.toInt64 40 &&& 63)) ||| v5) hx hb hr (fun t9 ht9 hW => ⟨⟨(v3 <<< (Int32.toInt64 40 &&& 63)) ||| v5, (), rfl, (by have e9 : i = 8 := (by omega); subst e9; rw [hv3, hv5]; exact rk_fin hk hev (fun a ha => (hTra a ha).2)), by rw [ht9]; exact hP9, hD9⟩, hS.F ht9⟩) hS.2.2 d_Mo_rankOf_112
      · skip
        replace hb2 := cv_nle (a := 8) (b := i) (by omega) (by omega) hb2
        refine lv_iload hx hb d_Mo_rankOf_15 (lv_at hl 5 rfl) ?_
        refine lv_iload_n hx hb d_Mo_rankOf_17 rfl (lv_at hl 2 rfl) ?_
        refine lv_icmp_ne (tgt := 25) hx hb d_Mo_rankOf_18 (by decide) (fun hb3 => ?_) (fun hb3 => ?_)
        · skip
          replace hb3 := cv_ne (a := i) (b := k) (by omega) (by omega) hb3
          refine lv_lconst (v := 0) hx hb d_Mo_rankOf_25 (by decide) ?_
          refine lv_lstore (lv' := [(8, .long 0), (0, .ref m0), (1, .int x), (2, .int (nI k)), (3, .long v3), (5, .long v5), (7, .int (nI i))]) hx hb d_Mo_rankOf_26 hl (by decide) rfl (fun ls hln => ?_)
          replace hl : lv_has ls 11 [(8, .long 0), (0, .ref m0), (1, .int x), (2, .int (nI k)), (3, .long v3), (5, .long v5), (7, .int (nI i))] := hln
          clear hln
          refine lv_iconst (v := 0) hx hb d_Mo_rankOf_28 (by decide) ?_
          refine lv_istore (lv' := [(10, .int 0), (8, .long 0), (0, .ref m0), (1, .int x), (2, .int (nI k)), (3, .long v3), (5, .long v5), (7, .int (nI i))]) hx hb d_Mo_rankOf_29 hl (by decide) rfl (fun ls hln => ?_)
          replace hl : lv_has ls 11 [(10, .int 0), (8, .long 0), (0, .ref m0), (1, .int x), (2, .int (nI k)), (3, .long v3), (5, .long v5), (7, .int (nI i))] := hln
          clear hln
          have hloop4 : ∀ (n31 : Nat) (v8 : Int64) (j : Nat) (hj : j ≤ mev) (hv8 : v8 = lN (cuX X tr k j i)) (H : Heap) (locs : List Loc) (ls : Array Slot) (hl : lv_has ls 11 [(0, .ref m0), (1, .int x), (2, .int (nI k)), (3, .long v3), (5, .long v5), (7, .int (nI i)), (8, .long v8), (10, .int (nI j))]) (hP : va_P (dC, dI) clA [(m0, .inr (9, [.int mth, .int (nI mt), .ref m1, .ref m2, .int mf, .int (nI mcd), .ref m3, .ref m4, .ref m5, .ref m6, .int (nI mev), .ref m7, .ref m8, .ref m9, .ref m10, .ref m11, .ref m12, .ref m13, .int mwh, .int mps, .ref m14, .ref m15, .long mlr, .int (nI mlt), .int (nI mlm), .ref m16, .int mln, .ref m17])), (m7, .inl (cI, 30, .inl gtr))] H) (hD : va_D A [(m0, .inr (9, [.int mth, .int (nI mt), .ref m1, .ref m2, .int mf, .int (nI mcd), .ref m3, .ref m4, .ref m5, .ref m6, .int (nI mev), .ref m7, .ref m8, .ref m9, .ref m10, .ref m11, .ref m12, .ref m13, .int mwh, .int mps, .ref m14, .ref m15, .long mlr, .int (nI mlt), .int (nI mlm), .ref m16, .int mln, .ref m17])), (m7, .inl (cI, 30, .inl gtr))]) (hS : va_S A s.heap H locs) (hm31 : mev - j < n31), W p l e (headSpec (Cond.code y_Mo_rankOf prog_11_method_15_code 11 (some .long) :: wsA) { frames := 1, cells := 0, slots := 0, locals := 22 }).room s m ([.ref m0, .int x, .int (nI k)] : List Value).toArray below meth c H locs 0 0 Q (F0 m 31 ls []) := by
            clear hl hP hD hS
            intro n31
            induction n31 with
            | zero => intro v8 j hj hv8 H locs ls hl hP hD hS hm; exact absurd hm (Nat.not_lt_zero _)
            | succ n31 hloop4_ih =>
              intro v8 j hj hv8 H locs ls hl hP hD hS hm31
              refine lv_iload hx hb d_Mo_rankOf_31 (lv_at hl 7 rfl) ?_
              refine lv_aload_n hx hb d_Mo_rankOf_33 rfl (lv_at hl 0 rfl) ?_
              refine va_get (D := (dC, dI)) (ci := 9) (v := .int (nI mev)) (C := "NetUnfolderModel") (T := T_Mo) (N := 28) hx hb ht in_Mo hown hK hP 0 rfl rfl 10 (by decide) (ht _ wd_4_10) (fun _ h9 => h9) rfl d_Mo_rankOf_34 ?_
              refine lv_icmp_ge (tgt := 79) hx hb d_Mo_rankOf_37 (by decide) (fun hb5 => ?_) (fun hb5 => ?_)
              · skip
                replace hb5 := cv_le (a := mev) (b := j) (by omega) (by omega) hb5
                have hj9 : j = mev := by omega
                refine lv_lload_n hx hb d_Mo_rankOf_79 rfl (lv_at hl 3 rfl) ?_
                refine lv_lload hx hb d_Mo_rankOf_80 (lv_at hl 6 rfl) ?_
                refine lv_ladd hx hb d_Mo_rankOf_82 ?_
                refine lv_lstore_n (lv' := [(3, .long (v3 + v8)), (0, .ref m0), (1, .int x), (2, .int (nI k)), (5, .long v5), (7, .int (nI i)), (8, .long v8), (10, .int (nI j))]) hx hb d_Mo_rankOf_83 rfl hl (by decide) rfl (fun ls hln => ?_)
                replace hl : lv_has ls 11 [(3, .long (v3 + v8)), (0, .ref m0), (1, .int x), (2, .int (nI k)), (5, .long v5), (7, .int (nI i)), (8, .long v8), (10, .int (nI j))] := hln
                clear hln
                refine lv_lload hx hb d_Mo_rankOf_84 (lv_at hl 4 rfl) ?_
                refine lv_ldc2 hx hb hown (ht _ wd_4_163) d_Mo_rankOf_86 ?_
                refine lv_lmul hx hb d_Mo_rankOf_89 ?_
                refine lv_ldc2 hx hb hown (ht _ wd_4_164) d_Mo_rankOf_90 ?_
                refine lv_ladd hx hb d_Mo_rankOf_93 ?_
                refine lv_lload hx hb d_Mo_rankOf_94 (lv_at hl 6 rfl) ?_
                refine lv_lsub hx hb d_Mo_rankOf_96 ?_
                refine lv_lstore (lv' := [(5, .long (((v5 * 32) + 31) - v8)), (3, .long (v3 + v8)), (0, .ref m0), (1, .int x), (2, .int (nI k)), (7, .int (nI i)), (8, .long v8), (10, .int (nI j))]) hx hb d_Mo_rankOf_97 hl (by decide) rfl (fun ls hln => ?_)
                replace hl : lv_has ls 11 [(5, .long (((v5 * 32) + 31) - v8)), (3, .long (v3 + v8)), (0, .ref m0), (1, .int x), (2, .int (nI k)), (7, .int (nI i)), (8, .long v8), (10, .int (nI j))] := hln
                clear hln
                refine lv_iinc (k := 5) (v := nI (i + 1)) (lv' := [(7, .int (nI (i + 1))), (5, .long (((v5 * 32) + 31) - v8)), (3, .long (v3 + v8)), (0, .ref m0), (1, .int x), (2, .int (nI k)), (8, .long v8), (10, .int (nI j))]) hx hb d_Mo_rankOf_99 hl rfl (nI_1 _) (by decide) rfl (fun ls hln => ?_)
                replace hl : lv_has ls 11 [(7, .int (nI (i + 1))), (5, .long (((v5 * 32) + 31) - v8)), (3, .long (v3 + v8)), (0, .ref m0), (1, .int x), (2, .int (nI k)), (8, .long v8), (10, .int (nI j))] := hln
                clear hln
                refine lv_goto (tgt := 8) hx hb d_Mo_rankOf_102 (by decide) ?_
                exact hloop1_ih (v3 + v8) (((v5 * 32) + 31) - v8) (i + 1) (by first | assumption | omega | trivial | exact AllLt.zero | exact AllN.zero | exact AllM.zero | exact Or.inl rfl | exact Or.inr rfl) (by rw [hv3, hv8, hj9, lN_add, Nat.add_assoc]; rfl) (by rw [hv5, hv8, hj9]; exact row_st (by have := cuX_le (X := X) (tr := tr) (k := k) (n := mev) (u := i); omega)) _ _ ls (lv_sub hl [3, 4, 5, 2, 1, 0] rfl) (hP.sub [0, 1] rfl) (hD.sub [0, 1] (by decide) rfl) hS (by omega)
              · skip
                replace hb5 := cv_nle (a := mev) (b := j) (by omega) (by omega) hb5
                refine lv_iload_n hx hb d_Mo_rankOf_40 rfl (lv_at hl 1 rfl) ?_
                refine lv_i2l (v := Int32.toInt64 x) hx hb d_Mo_rankOf_41 rfl ?_
                refine lv_iload hx hb d_Mo_rankOf_42 (lv_at hl 7 rfl) ?_
                have hPc : va_P (dC, dI) clA [] _ := pu_P (H := H)
                have hDc : va_D (fun _ => True) [] := pu_D
                have hFc := pu_free hS hA
                refine va_calli (va_runS (As := [.long (Int32.toInt64 x), .int (nI j)]) (rest := []) ⟨hx, hb, hml, hown, ht⟩ (c_Mo_has l dC dI cI cL cZ _ (Int32.toInt64 x) j (by first | assumption | omega | trivial | exact AllLt.zero | exact AllN.zero | exact AllM.zero | exact Or.inl rfl | exact Or.inr rfl)) (va_cwS 2 ht (good_S wd_4_121 wd_4_122 wd_1_10 wd_4_123) rfl rfl rfl (by decide +kernel) ⟨Nat.le_of_ble_eq_true rfl, Nat.le_of_ble_eq_true rfl⟩) ⟨fun a U g mk q => by obtain ⟨q0, q1, qP, qK, qD, qN⟩ := q; exact ⟨q0, q1, qP, va_K.moved (u := U) (U := U.calling g mk a) (Vm.Alike.refl U.vm) qK, qD, NwA.same (u := U) rfl qN⟩, fun U hU hW => ⟨rfl, by rw [hU], by rw [hU]; exact hPc, va_K.moved hW.alike hK, hDc.weaken (fun _ _ _ _ => trivial), NwA.warm hW hN⟩⟩ rfl rfl hl.1 rfl (lv_room (Nat.le_of_ble_eq_true rfl)) d_Mo_rankOf_44 ⟨Nat.le_of_ble_eq_true rfl, Nat.le_of_ble_eq_true rfl⟩) hS (fun q _ h => hFc q h) hFc (fun r8 u9 t9 H6 locs ht9 hvm hw7 hB hz1 hk1 hSn => ?_)
                replace hP : va_P (dC, dI) clA [(m0, .inr (9, [.int mth, .int (nI mt), .ref m1, .ref m2, .int mf, .int (nI mcd), .ref m3, .ref m4, .ref m5, .ref m6, .int (nI mev), .ref m7, .ref m8, .ref m9, .ref m10, .ref m11, .ref m12, .ref m13, .int mwh, .int mps, .ref m14, .ref m15, .long mlr, .int (nI mlt), .int (nI mlm), .ref m16, .int mln, .ref m17])), (m7, .inl (cI, 30, .inl gtr))] H6 := pu_keep hP hk1
                replace hS := hSn
                clear hSn hPc hDc hFc hk1 hz1 ht9 hvm hB
                refine W.cs (cells' := 0) (slots' := 0) rfl rfl ?_
                subst hw7
                refine lv_if_eq (tgt := 69) hx hb d_Mo_rankOf_47 (by decide) (fun hb9 => ?_) (fun hb9 => ?_)
                · skip
                  refine lv_lload hx hb d_Mo_rankOf_69 (lv_at hl 6 rfl) ?_
                  refine lv_lstore (lv' := [(8, .long v8), (0, .ref m0), (1, .int x), (2, .int (nI k)), (3, .long v3), (5, .long v5), (7, .int (nI i)), (10, .int (nI j))]) hx hb d_Mo_rankOf_71 hl (by decide) rfl (fun ls hln => ?_)
                  replace hl : lv_has ls 11 [(8, .long v8), (0, .ref m0), (1, .int x), (2, .int (nI k)), (3, .long v3), (5, .long v5), (7, .int (nI i)), (10, .int (nI j))] := hln
                  clear hln
                  refine lv_iinc (k := 7) (v := nI (j + 1)) (lv' := [(10, .int (nI (j + 1))), (8, .long v8), (0, .ref m0), (1, .int x), (2, .int (nI k)), (3, .long v3), (5, .long v5), (7, .int (nI i))]) hx hb d_Mo_rankOf_73 hl rfl (nI_1 _) (by decide) rfl (fun ls hln => ?_)
                  replace hl : lv_has ls 11 [(10, .int (nI (j + 1))), (8, .long v8), (0, .ref m0), (1, .int x), (2, .int (nI k)), (3, .long v3), (5, .long v5), (7, .int (nI i))] := hln
                  clear hln
                  refine lv_goto (tgt := 31) hx hb d_Mo_rankOf_76 (by decide) ?_
                  exact hloop4_ih v8 (j + 1) (by first | assumption | omega | trivial | exact AllLt.zero | exact AllN.zero | exact AllM.zero | exact Or.inl rfl | exact Or.inr rfl) (by rw [cuX_n (fun q => (B32.has hXB (fun a ha => by have := hX30 a ha; omega)).mp hb9 q.1)]; exact hv8) _ _ ls (lv_sub hl [2, 3, 4, 5, 6, 7, 1, 0] rfl) (hP.sub [0, 1] rfl) (hD.sub [0, 1] (by decide) rfl) hS (by omega)
                · skip
                  have hXj : X j := Classical.byContradiction (fun z => hb9 ((B32.has hXB (fun a ha => by have := hX30 a ha; omega)).mpr z))
                  refine lv_aload_n hx hb d_Mo_rankOf_50 rfl (lv_at hl 0 rfl) ?_
                  refine va_get (D := (dC, dI)) (ci := 9) (v := .ref m7) (C := "NetUnfolderModel") (T := T_Mo) (N := 28) hx hb ht in_Mo hown hK hP 0 rfl rfl 11 (by decide) (ht _ wd_4_11) (fun _ h9 => h9) rfl d_Mo_rankOf_51 ?_
                  refine lv_iload hx hb d_Mo_rankOf_54 (lv_at hl 7 rfl) ?_
                  refine na_iald (k := j) hx hb hK hP 1 0 rfl rfl (by omega) (by decide) d_Mo_rankOf_56 ?_
                  refine ci_i (y := nI (tr j)) (hTra j (by omega)).1 ?_
                  have htj := (hTra j (by omega)).2
                  refine lv_iload hx hb d_Mo_rankOf_57 (lv_at hl 5 rfl) ?_
                  refine lv_icmp_ne (tgt := 69) hx hb d_Mo_rankOf_59 (by decide) (fun hb10 => ?_) (fun hb10 => ?_)
                  · skip
                    replace hb10 := cv_ne (a := tr j) (b := i) (by omega) (by omega) hb10
                    refine lv_lload hx hb d_Mo_rankOf_69 (lv_at hl 6 rfl) ?_
                    refine lv_lstore (lv' := [(8, .long v8), (0, .ref m0), (1, .int x), (2, .int (nI k)), (3, .long v3), (5, .long v5), (7, .int (nI i)), (10, .int (nI j))]) hx hb d_Mo_rankOf_71 hl (by decide) rfl (fun ls hln => ?_)
                    replace hl : lv_has ls 11 [(8, .long v8), (0, .ref m0), (1, .int x), (2, .int (nI k)), (3, .long v3), (5, .long v5), (7, .int (nI i)), (10, .int (nI j))] := hln
                    clear hln
                    refine lv_iinc (k := 7) (v := nI (j + 1)) (lv' := [(10, .int (nI (j + 1))), (8, .long v8), (0, .ref m0), (1, .int x), (2, .int (nI k)), (3, .long v3), (5, .long v5), (7, .int (nI i))]) hx hb d_Mo_rankOf_73 hl rfl (nI_1 _) (by decide) rfl (fun ls hln => ?_)
                    replace hl : lv_has ls 11 [(10, .int (nI (j + 1))), (8, .long v8), (0, .ref m0), (1, .int x), (2, .int (nI k)), (3, .long v3), (5, .long v5), (7, .int (nI i))] := hln
                    clear hln
                    refine lv_goto (tgt := 31) hx hb d_Mo_rankOf_76 (by decide) ?_
                    exact hloop4_ih v8 (j + 1) (by first | assumption | omega | trivial | exact AllLt.zero | exact AllN.zero | exact AllM.zero | exact Or.inl rfl | exact Or.inr rfl) (by rw [cuX_n (fun q => hb10 q.2)]; exact hv8) _ _ ls (lv_sub hl [2, 3, 4, 5, 6, 7, 1, 0] rfl) (hP.sub [0, 1] rfl) (hD.sub [0, 1] (by decide) rfl) hS (by omega)
                  · skip
                    replace hb10 := cv_eq (a := tr j) (b := i) (by omega) (by omega) hb10
                    refine lv_lload hx hb d_Mo_rankOf_62 (lv_at hl 6 rfl) ?_
                    refine lv_lconst (v := 1) hx hb d_Mo_rankOf_64 (by decide) ?_
                    refine lv_ladd hx hb d_Mo_rankOf_65 ?_
                    refine lv_goto (tgt := 71) hx hb d_Mo_rankOf_66 (by decide) ?_
                    refine lv_lstore (lv' := [(8, .long (v8 + 1)), (0, .ref m0), (1, .int x), (2, .int (nI k)), (3, .long v3), (5, .long v5), (7, .int (nI i)), (10, .int (nI j))]) hx hb d_Mo_rankOf_71 hl (by decide) rfl (fun ls hln => ?_)
                    replace hl : lv_has ls 11 [(8, .long (v8 + 1)), (0, .ref m0), (1, .int x), (2, .int (nI k)), (3, .long v3), (5, .long v5), (7, .int (nI i)), (10, .int (nI j))] := hln
                    clear hln
                    refine lv_iinc (k := 7) (v := nI (j + 1)) (lv' := [(10, .int (nI (j + 1))), (8, .long (v8 + 1)), (0, .ref m0), (1, .int x), (2, .int (nI k)), (3, .long v3), (5, .long v5), (7, .int (nI i))]) hx hb d_Mo_rankOf_73 hl rfl (nI_1 _) (by decide) rfl (fun ls hln => ?_)
                    replace hl : lv_has ls 11 [(10, .int (nI (j + 1))), (8, .long (v8 + 1)), (0, .ref m0), (1, .int x), (2, .int (nI k)), (3, .long v3), (5, .long v5), (7, .int (nI i))] := hln
                    clear hln
                    refine lv_goto (tgt := 31) hx hb d_Mo_rankOf_76 (by decide) ?_
                    exact hloop4_ih (v8 + 1) (j + 1) (by first | assumption | omega | trivial | exact AllLt.zero | exact AllN.zero | exact AllM.zero | exact Or.inl rfl | exact Or.inr rfl) (by rw [hv8, cuX_y hXj (by omega)]; exact lN_1 _) _ _ ls (lv_sub hl [2, 3, 4, 5, 6, 7, 1, 0] rfl) (hP.sub [0, 1] rfl) (hD.sub [0, 1] (by decide) rfl) hS (by omega)
          exact hloop4 ((mev - 0) + 1) 0 0 (by first | assumption | omega | trivial | exact AllLt.zero | exact AllN.zero | exact AllM.zero | exact Or.inl rfl | exact Or.inr rfl) (by rw [cuX_0, if_neg (by omega)]; rfl) _ _ ls (lv_sub hl [2, 3, 4, 5, 6, 7, 1, 0] rfl) hP hD hS (Nat.lt_succ_self _)
        · skip
          replace hb3 := cv_eq (a := i) (b := k) (by omega) (by omega) hb3
          refine lv_lconst (v := 1) hx hb d_Mo_rankOf_21 (by decide) ?_
          refine lv_goto (tgt := 26) hx hb d_Mo_rankOf_22 (by decide) ?_
          refine lv_lstore (lv' := [(8, .long 1), (0, .ref m0), (1, .int x), (2, .int (nI k)), (3, .long v3), (5, .long v5), (7, .int (nI i))]) hx hb d_Mo_rankOf_26 hl (by decide) rfl (fun ls hln => ?_)
          replace hl : lv_has ls 11 [(8, .long 1), (0, .ref m0), (1, .int x), (2, .int (nI k)), (3, .long v3), (5, .long v5), (7, .int (nI i))] := hln
          clear hln
          refine lv_iconst (v := 0) hx hb d_Mo_rankOf_28 (by decide) ?_
          refine lv_istore (lv' := [(10, .int 0), (8, .long 1), (0, .ref m0), (1, .int x), (2, .int (nI k)), (3, .long v3), (5, .long v5), (7, .int (nI i))]) hx hb d_Mo_rankOf_29 hl (by decide) rfl (fun ls hln => ?_)
          replace hl : lv_has ls 11 [(10, .int 0), (8, .long 1), (0, .ref m0), (1, .int x), (2, .int (nI k)), (3, .long v3), (5, .long v5), (7, .int (nI i))] := hln
          clear hln
          have hloop11 : ∀ (n31 : Nat) (v8 : Int64) (j : Nat) (hj : j ≤ mev) (hv8 : v8 = lN (cuX X tr k j i)) (H : Heap) (locs : List Loc) (ls : Array Slot) (hl : lv_has ls 11 [(0, .ref m0), (1, .int x), (2, .int (nI k)), (3, .long v3), (5, .long v5), (7, .int (nI i)), (8, .long v8), (10, .int (nI j))]) (hP : va_P (dC, dI) clA [(m0, .inr (9, [.int mth, .int (nI mt), .ref m1, .ref m2, .int mf, .int (nI mcd), .ref m3, .ref m4, .ref m5, .ref m6, .int (nI mev), .ref m7, .ref m8, .ref m9, .ref m10, .ref m11, .ref m12, .ref m13, .int mwh, .int mps, .ref m14, .ref m15, .long mlr, .int (nI mlt), .int (nI mlm), .ref m16, .int mln, .ref m17])), (m7, .inl (cI, 30, .inl gtr))] H) (hD : va_D A [(m0, .inr (9, [.int mth, .int (nI mt), .ref m1, .ref m2, .int mf, .int (nI mcd), .ref m3, .ref m4, .ref m5, .ref m6, .int (nI mev), .ref m7, .ref m8, .ref m9, .ref m10, .ref m11, .ref m12, .ref m13, .int mwh, .int mps, .ref m14, .ref m15, .long mlr, .int (nI mlt), .int (nI mlm), .ref m16, .int mln, .ref m17])), (m7, .inl (cI, 30, .inl gtr))]) (hS : va_S A s.heap H locs) (hm31 : mev - j < n31), W p l e (headSpec (Cond.code y_Mo_rankOf prog_11_method_15_code 11 (some .long) :: wsA) { frames := 1, cells := 0, slots := 0, locals := 22 }).room s m ([.ref m0, .int x, .int (nI k)] : List Value).toArray below meth c H locs 0 0 Q (F0 m 31 ls []) := by
            clear hl hP hD hS
            intro n31
            induction n31 with
            | zero => intro v8 j hj hv8 H locs ls hl hP hD hS hm; exact absurd hm (Nat.not_lt_zero _)
            | succ n31 hloop11_ih =>
              intro v8 j hj hv8 H locs ls hl hP hD hS hm31
              refine lv_iload hx hb d_Mo_rankOf_31 (lv_at hl 7 rfl) ?_
              refine lv_aload_n hx hb d_Mo_rankOf_33 rfl (lv_at hl 0 rfl) ?_
              refine va_get (D := (dC, dI)) (ci := 9) (v := .int (nI mev)) (C := "NetUnfolderModel") (T := T_Mo) (N := 28) hx hb ht in_Mo hown hK hP 0 rfl rfl 10 (by decide) (ht _ wd_4_10) (fun _ h9 => h9) rfl d_Mo_rankOf_34 ?_
              refine lv_icmp_ge (tgt := 79) hx hb d_Mo_rankOf_37 (by decide) (fun hb12 => ?_) (fun hb12 => ?_)
              · skip
                replace hb12 := cv_le (a := mev) (b := j) (by omega) (by omega) hb12
                have hj9 : j = mev := by omega
                refine lv_lload_n hx hb d_Mo_rankOf_79 rfl (lv_at hl 3 rfl) ?_
                refine lv_lload hx hb d_Mo_rankOf_80 (lv_at hl 6 rfl) ?_
                refine lv_ladd hx hb d_Mo_rankOf_82 ?_
                refine lv_lstore_n (lv' := [(3, .long (v3 + v8)), (0, .ref m0), (1, .int x), (2, .int (nI k)), (5, .long v5), (7, .int (nI i)), (8, .long v8), (10, .int (nI j))]) hx hb d_Mo_rankOf_83 rfl hl (by decide) rfl (fun ls hln => ?_)
                replace hl : lv_has ls 11 [(3, .long (v3 + v8)), (0, .ref m0), (1, .int x), (2, .int (nI k)), (5, .long v5), (7, .int (nI i)), (8, .long v8), (10, .int (nI j))] := hln
                clear hln
                refine lv_lload hx hb d_Mo_rankOf_84 (lv_at hl 4 rfl) ?_
                refine lv_ldc2 hx hb hown (ht _ wd_4_163) d_Mo_rankOf_86 ?_
                refine lv_lmul hx hb d_Mo_rankOf_89 ?_
                refine lv_ldc2 hx hb hown (ht _ wd_4_164) d_Mo_rankOf_90 ?_
                refine lv_ladd hx hb d_Mo_rankOf_93 ?_
                refine lv_lload hx hb d_Mo_rankOf_94 (lv_at hl 6 rfl) ?_
                refine lv_lsub hx hb d_Mo_rankOf_96 ?_
                refine lv_lstore (lv' := [(5, .long (((v5 * 32) + 31) - v8)), (3, .long (v3 + v8)), (0, .ref m0), (1, .int x), (2, .int (nI k)), (7, .int (nI i)), (8, .long v8), (10, .int (nI j))]) hx hb d_Mo_rankOf_97 hl (by decide) rfl (fun ls hln => ?_)
                replace hl : lv_has ls 11 [(5, .long (((v5 * 32) + 31) - v8)), (3, .long (v3 + v8)), (0, .ref m0), (1, .int x), (2, .int (nI k)), (7, .int (nI i)), (8, .long v8), (10, .int (nI j))] := hln
                clear hln
                refine lv_iinc (k := 5) (v := nI (i + 1)) (lv' := [(7, .int (nI (i + 1))), (5, .long (((v5 * 32) + 31) - v8)), (3, .long (v3 + v8)), (0, .ref m0), (1, .int x), (2, .int (nI k)), (8, .long v8), (10, .int (nI j))]) hx hb d_Mo_rankOf_99 hl rfl (nI_1 _) (by decide) rfl (fun ls hln => ?_)
                replace hl : lv_has ls 11 [(7, .int (nI (i + 1))), (5, .long (((v5 * 32) + 31) - v8)), (3, .long (v3 + v8)), (0, .ref m0), (1, .int x), (2, .int (nI k)), (8, .long v8), (10, .int (nI j))] := hln
                clear hln
                refine lv_goto (tgt := 8) hx hb d_Mo_rankOf_102 (by decide) ?_
                exact hloop1_ih (v3 + v8) (((v5 * 32) + 31) - v8) (i + 1) (by first | assumption | omega | trivial | exact AllLt.zero | exact AllN.zero | exact AllM.zero | exact Or.inl rfl | exact Or.inr rfl) (by rw [hv3, hv8, hj9, lN_add, Nat.add_assoc]; rfl) (by rw [hv5, hv8, hj9]; exact row_st (by have := cuX_le (X := X) (tr := tr) (k := k) (n := mev) (u := i); omega)) _ _ ls (lv_sub hl [3, 4, 5, 2, 1, 0] rfl) (hP.sub [0, 1] rfl) (hD.sub [0, 1] (by decide) rfl) hS (by omega)
              · skip
                replace hb12 := cv_nle (a := mev) (b := j) (by omega) (by omega) hb12
                refine lv_iload_n hx hb d_Mo_rankOf_40 rfl (lv_at hl 1 rfl) ?_
                refine lv_i2l (v := Int32.toInt64 x) hx hb d_Mo_rankOf_41 rfl ?_
                refine lv_iload hx hb d_Mo_rankOf_42 (lv_at hl 7 rfl) ?_
                have hPc : va_P (dC, dI) clA [] _ := pu_P (H := H)
                have hDc : va_D (fun _ => True) [] := pu_D
                have hFc := pu_free hS hA
                refine va_calli (va_runS (As := [.long (Int32.toInt64 x), .int (nI j)]) (rest := []) ⟨hx, hb, hml, hown, ht⟩ (c_Mo_has l dC dI cI cL cZ _ (Int32.toInt64 x) j (by first | assumption | omega | trivial | exact AllLt.zero | exact AllN.zero | exact AllM.zero | exact Or.inl rfl | exact Or.inr rfl)) (va_cwS 2 ht (good_S wd_4_121 wd_4_122 wd_1_10 wd_4_123) rfl rfl rfl (by decide +kernel) ⟨Nat.le_of_ble_eq_true rfl, Nat.le_of_ble_eq_true rfl⟩) ⟨fun a U g mk q => by obtain ⟨q0, q1, qP, qK, qD, qN⟩ := q; exact ⟨q0, q1, qP, va_K.moved (u := U) (U := U.calling g mk a) (Vm.Alike.refl U.vm) qK, qD, NwA.same (u := U) rfl qN⟩, fun U hU hW => ⟨rfl, by rw [hU], by rw [hU]; exact hPc, va_K.moved hW.alike hK, hDc.weaken (fun _ _ _ _ => trivial), NwA.warm hW hN⟩⟩ rfl rfl hl.1 rfl (lv_room (Nat.le_of_ble_eq_true rfl)) d_Mo_rankOf_44 ⟨Nat.le_of_ble_eq_true rfl, Nat.le_of_ble_eq_true rfl⟩) hS (fun q _ h => hFc q h) hFc (fun r15 u9 t9 H13 locs ht9 hvm hw14 hB hz1 hk1 hSn => ?_)
                replace hP : va_P (dC, dI) clA [(m0, .inr (9, [.int mth, .int (nI mt), .ref m1, .ref m2, .int mf, .int (nI mcd), .ref m3, .ref m4, .ref m5, .ref m6, .int (nI mev), .ref m7, .ref m8, .ref m9, .ref m10, .ref m11, .ref m12, .ref m13, .int mwh, .int mps, .ref m14, .ref m15, .long mlr, .int (nI mlt), .int (nI mlm), .ref m16, .int mln, .ref m17])), (m7, .inl (cI, 30, .inl gtr))] H13 := pu_keep hP hk1
                replace hS := hSn
                clear hSn hPc hDc hFc hk1 hz1 ht9 hvm hB
                refine W.cs (cells' := 0) (slots' := 0) rfl rfl ?_
                subst hw14
                refine lv_if_eq (tgt := 69) hx hb d_Mo_rankOf_47 (by decide) (fun hb16 => ?_) (fun hb16 => ?_)
                · skip
                  refine lv_lload hx hb d_Mo_rankOf_69 (lv_at hl 6 rfl) ?_
                  refine lv_lstore (lv' := [(8, .long v8), (0, .ref m0), (1, .int x), (2, .int (nI k)), (3, .long v3), (5, .long v5), (7, .int (nI i)), (10, .int (nI j))]) hx hb d_Mo_rankOf_71 hl (by decide) rfl (fun ls hln => ?_)
                  replace hl : lv_has ls 11 [(8, .long v8), (0, .ref m0), (1, .int x), (2, .int (nI k)), (3, .long v3), (5, .long v5), (7, .int (nI i)), (10, .int (nI j))] := hln
                  clear hln
                  refine lv_iinc (k := 7) (v := nI (j + 1)) (lv' := [(10, .int (nI (j + 1))), (8, .long v8), (0, .ref m0), (1, .int x), (2, .int (nI k)), (3, .long v3), (5, .long v5), (7, .int (nI i))]) hx hb d_Mo_rankOf_73 hl rfl (nI_1 _) (by decide) rfl (fun ls hln => ?_)
                  replace hl : lv_has ls 11 [(10, .int (nI (j + 1))), (8, .long v8), (0, .ref m0), (1, .int x), (2, .int (nI k)), (3, .long v3), (5, .long v5), (7, .int (nI i))] := hln
                  clear hln
                  refine lv_goto (tgt := 31) hx hb d_Mo_rankOf_76 (by decide) ?_
                  exact hloop11_ih v8 (j + 1) (by first | assumption | omega | trivial | exact AllLt.zero | exact AllN.zero | exact AllM.zero | exact Or.inl rfl | exact Or.inr rfl) (by rw [cuX_n (fun q => (B32.has hXB (fun a ha => by have := hX30 a ha; omega)).mp hb16 q.1)]; exact hv8) _ _ ls (lv_sub hl [2, 3, 4, 5, 6, 7, 1, 0] rfl) (hP.sub [0, 1] rfl) (hD.sub [0, 1] (by decide) rfl) hS (by omega)
                · skip
                  have hXj : X j := Classical.byContradiction (fun z => hb16 ((B32.has hXB (fun a ha => by have := hX30 a ha; omega)).mpr z))
                  refine lv_aload_n hx hb d_Mo_rankOf_50 rfl (lv_at hl 0 rfl) ?_
                  refine va_get (D := (dC, dI)) (ci := 9) (v := .ref m7) (C := "NetUnfolderModel") (T := T_Mo) (N := 28) hx hb ht in_Mo hown hK hP 0 rfl rfl 11 (by decide) (ht _ wd_4_11) (fun _ h9 => h9) rfl d_Mo_rankOf_51 ?_
                  refine lv_iload hx hb d_Mo_rankOf_54 (lv_at hl 7 rfl) ?_
                  refine na_iald (k := j) hx hb hK hP 1 0 rfl rfl (by omega) (by decide) d_Mo_rankOf_56 ?_
                  refine ci_i (y := nI (tr j)) (hTra j (by omega)).1 ?_
                  have htj := (hTra j (by omega)).2
                  refine lv_iload hx hb d_Mo_rankOf_57 (lv_at hl 5 rfl) ?_
                  refine lv_icmp_ne (tgt := 69) hx hb d_Mo_rankOf_59 (by decide) (fun hb17 => ?_) (fun hb17 => ?_)
                  · skip
                    replace hb17 := cv_ne (a := tr j) (b := i) (by omega) (by omega) hb17
                    refine lv_lload hx hb d_Mo_rankOf_69 (lv_at hl 6 rfl) ?_
                    refine lv_lstore (lv' := [(8, .long v8), (0, .ref m0), (1, .int x), (2, .int (nI k)), (3, .long v3), (5, .long v5), (7, .int (nI i)), (10, .int (nI j))]) hx hb d_Mo_rankOf_71 hl (by decide) rfl (fun ls hln => ?_)
                    replace hl : lv_has ls 11 [(8, .long v8), (0, .ref m0), (1, .int x), (2, .int (nI k)), (3, .long v3), (5, .long v5), (7, .int (nI i)), (10, .int (nI j))] := hln
                    clear hln
                    refine lv_iinc (k := 7) (v := nI (j + 1)) (lv' := [(10, .int (nI (j + 1))), (8, .long v8), (0, .ref m0), (1, .int x), (2, .int (nI k)), (3, .long v3), (5, .long v5), (7, .int (nI i))]) hx hb d_Mo_rankOf_73 hl rfl (nI_1 _) (by decide) rfl (fun ls hln => ?_)
                    replace hl : lv_has ls 11 [(10, .int (nI (j + 1))), (8, .long v8), (0, .ref m0), (1, .int x), (2, .int (nI k)), (3, .long v3), (5, .long v5), (7, .int (nI i))] := hln
                    clear hln
                    refine lv_goto (tgt := 31) hx hb d_Mo_rankOf_76 (by decide) ?_
                    exact hloop11_ih v8 (j + 1) (by first | assumption | omega | trivial | exact AllLt.zero | exact AllN.zero | exact AllM.zero | exact Or.inl rfl | exact Or.inr rfl) (by rw [cuX_n (fun q => hb17 q.2)]; exact hv8) _ _ ls (lv_sub hl [2, 3, 4, 5, 6, 7, 1, 0] rfl) (hP.sub [0, 1] rfl) (hD.sub [0, 1] (by decide) rfl) hS (by omega)
                  · skip
                    replace hb17 := cv_eq (a := tr j) (b := i) (by omega) (by omega) hb17
                    refine lv_lload hx hb d_Mo_rankOf_62 (lv_at hl 6 rfl) ?_
                    refine lv_lconst (v := 1) hx hb d_Mo_rankOf_64 (by decide) ?_
                    refine lv_ladd hx hb d_Mo_rankOf_65 ?_
                    refine lv_goto (tgt := 71) hx hb d_Mo_rankOf_66 (by decide) ?_
                    refine lv_lstore (lv' := [(8, .long (v8 + 1)), (0, .ref m0), (1, .int x), (2, .int (nI k)), (3, .long v3), (5, .long v5), (7, .int (nI i)), (10, .int (nI j))]) hx hb d_Mo_rankOf_71 hl (by decide) rfl (fun ls hln => ?_)
                    replace hl : lv_has ls 11 [(8, .long (v8 + 1)), (0, .ref m0), (1, .int x), (2, .int (nI k)), (3, .long v3), (5, .long v5), (7, .int (nI i)), (10, .int (nI j))] := hln
                    clear hln
                    refine lv_iinc (k := 7) (v := nI (j + 1)) (lv' := [(10, .int (nI (j + 1))), (8, .long (v8 + 1)), (0, .ref m0), (1, .int x), (2, .int (nI k)), (3, .long v3), (5, .long v5), (7, .int (nI i))]) hx hb d_Mo_rankOf_73 hl rfl (nI_1 _) (by decide) rfl (fun ls hln => ?_)
                    replace hl : lv_has ls 11 [(10, .int (nI (j + 1))), (8, .long (v8 + 1)), (0, .ref m0), (1, .int x), (2, .int (nI k)), (3, .long v3), (5, .long v5), (7, .int (nI i))] := hln
                    clear hln
                    refine lv_goto (tgt := 31) hx hb d_Mo_rankOf_76 (by decide) ?_
                    exact hloop11_ih (v8 + 1) (j + 1) (by first | assumption | omega | trivial | exact AllLt.zero | exact AllN.zero | exact AllM.zero | exact Or.inl rfl | exact Or.inr rfl) (by rw [hv8, cuX_y hXj (by omega)]; exact lN_1 _) _ _ ls (lv_sub hl [2, 3, 4, 5, 6, 7, 1, 0] rfl) (hP.sub [0, 1] rfl) (hD.sub [0, 1] (by decide) rfl) hS (by omega)
          exact hloop11 ((mev - 0) + 1) 1 0 (by first | assumption | omega | trivial | exact AllLt.zero | exact AllN.zero | exact AllM.zero | exact Or.inl rfl | exact Or.inr rfl) (by rw [cuX_0, if_pos (by omega)]; rfl) _ _ ls (lv_sub hl [2, 3, 4, 5, 6, 7, 1, 0] rfl) hP hD hS (Nat.lt_succ_self _)
  exact hloop1 ((8 - 0) + 1) 1 0 0 (by first | assumption | omega | trivial | exact AllLt.zero | exact AllN.zero | exact AllM.zero | exact Or.inl rfl | exact Or.inr rfl) rfl rfl _ _ ls (lv_sub hl [3, 4, 5, 2, 1, 0] rfl) hP hD hS (Nat.lt_succ_self _)

set_option maxHeartbeats 4000000 in
set_option maxRecDepth 100000 in
theorem e_Mo_placeOf (l : Launch) (dC : Nat → ClassId) (dI : Nat → Nat → Nat) (cI cL cZ : ClassId) (sz : Nat) (n : Nat) (k : Nat) (hn : n < 256) (hk : k < bC n 8) : Met l y_Mo_placeOf (Cond.code y_Mo_placeOf prog_11_method_21_code 4 (some .int) :: wsA) { frames := 0, cells := 0, slots := 0, locals := 0 } (va_Pc [.int (nI n), .int (nI k)] (fun U => U.heap.size = sz ∧ va_P (dC, dI) clA [] U.heap ∧ va_K (dC, dI) clA [(cI, .int), (cL, .long), (cZ, .boolean)] U ∧ va_D (fun _ => True) [] ∧ NwA U)) (va_Qi (fun r (_ : Unit) => ∃ (j : Nat), (j < 8 ∧ j = (psN n).getD k 0) ∧ r = nI j) (fun _ t => va_P (dC, dI) clA [] t.heap ∧ va_D (va_A [] sz) []) (va_A [] sz)) 0 0 (va_A [] sz) := by
  refine Met.ofW (cc := prog_11_method_21_code) (maxL := 4) (ret := (some .int)) (by decide) rfl ?_
  intro p e s m args below meth c s₁ B hml hv
  obtain ⟨rfl, hsz, hP, hK, hD0, hN⟩ := hv
  have hx := B.exec
  have hb := B.bytes
  have hr := B.returns
  have ht : ∀ w ∈ wsA, w.before _ s = true := fun w h => atoms_spec (ws := (Cond.code y_Mo_placeOf prog_11_method_21_code 4 (some .int) :: wsA)) B.pre w (List.mem_cons_of_mem _ h)
  have hown : s.vm.findClass "NetUnfolderModel" = some m.cls := findClass_of_methodNamed B.named
  have hlocks := B.notSynchronized
  subst hsz
  have hD := hD0.self (sz := s.heap.size)
  generalize hAe : va_A [] s.heap.size = A at hD ⊢
  have hA : ∀ q : Nat, s.heap.size ≤ q → A q := fun q h => by rw [← hAe]; exact Or.inr h
  have hS : va_S A s.heap s.heap [] := va_S.rf
  have hl := lv_entry ([.int (nI n), .int (nI k)]) (n := 4) (Nat.le_of_ble_eq_true rfl)
  rw [lg_entry_eq]
  generalize (lg_sl ([.int (nI n), .int (nI k)]) ++ List.replicate (4 - (lg_sl ([.int (nI n), .int (nI k)])).length) Slot.unset).toArray = ls at hl ⊢
  replace hl : lv_has ls 4 [(0, .int (nI n)), (1, .int (nI k))] := hl
  refine W_Q (fun Q hQ => ?_)
  have hk8 := bC_i n 8
  refine lv_iconst (v := 0) hx hb d_Mo_placeOf_0 (by decide) ?_
  refine lv_istore_n (lv' := [(2, .int 0), (0, .int (nI n)), (1, .int (nI k))]) hx hb d_Mo_placeOf_1 rfl hl (by decide) rfl (fun ls hln => ?_)
  replace hl : lv_has ls 4 [(2, .int 0), (0, .int (nI n)), (1, .int (nI k))] := hln
  clear hln
  refine lv_iload_n hx hb d_Mo_placeOf_2 rfl (lv_at hl 2 rfl) ?_
  refine lv_istore_n (lv' := [(3, .int (nI k)), (2, .int 0), (0, .int (nI n)), (1, .int (nI k))]) hx hb d_Mo_placeOf_3 rfl hl (by decide) rfl (fun ls hln => ?_)
  replace hl : lv_has ls 4 [(3, .int (nI k)), (2, .int 0), (0, .int (nI n)), (1, .int (nI k))] := hln
  clear hln
  have hloop1 : ∀ (n4 : Nat) (q : Nat) (i : Nat) (hi : i ≤ 8) (hq : q + bC n i = k) (H : Heap) (locs : List Loc) (ls : Array Slot) (hl : lv_has ls 4 [(0, .int (nI n)), (1, .int (nI k)), (2, .int (nI i)), (3, .int (nI q))]) (hP : va_P (dC, dI) clA [] H) (hD : va_D A []) (hS : va_S A s.heap H locs) (hm4 : 8 - i < n4), W p l e (headSpec (Cond.code y_Mo_placeOf prog_11_method_21_code 4 (some .int) :: wsA) { frames := 0, cells := 0, slots := 0, locals := 0 }).room s m ([.int (nI n), .int (nI k)] : List Value).toArray below meth c H locs 0 0 Q (F0 m 4 ls []) := by
    clear hl hP hD hS
    intro n4
    induction n4 with
    | zero => intro q i hi hq H locs ls hl hP hD hS hm; exact absurd hm (Nat.not_lt_zero _)
    | succ n4 hloop1_ih =>
      intro q i hi hq H locs ls hl hP hD hS hm4
      have hi8 := po_i hi hq hk
      have hbs := bC_s n i
      refine lv_iload_n hx hb d_Mo_placeOf_4 rfl (lv_at hl 0 rfl) ?_
      refine lv_iload_n hx hb d_Mo_placeOf_5 rfl (lv_at hl 2 rfl) ?_
      refine lv_ishr hx hb d_Mo_placeOf_6 ?_
      refine lv_iconst (v := 1) hx hb d_Mo_placeOf_7 (by decide) ?_
      refine lv_iand hx hb d_Mo_placeOf_8 ?_
      refine ci_i (y := nI (bN n i)) (bN_eq n (by omega) i (by omega)) ?_
      have hbN2 := bN_le n i
      refine lv_if_eq (tgt := 16) hx hb d_Mo_placeOf_9 (by decide) (fun hb3 => ?_) (fun hb3 => ?_)
      · skip
        replace hb3 := cv_eq (a := bN n i) (b := 0) (by omega) (by omega) hb3
        refine lv_iload_n hx hb d_Mo_placeOf_16 rfl (lv_at hl 0 rfl) ?_
        refine lv_iload_n hx hb d_Mo_placeOf_17 rfl (lv_at hl 2 rfl) ?_
        refine lv_ishr hx hb d_Mo_placeOf_18 ?_
        refine lv_iconst (v := 1) hx hb d_Mo_placeOf_19 (by decide) ?_
        refine lv_iand hx hb d_Mo_placeOf_20 ?_
        refine ci_i (y := nI (bN n i)) (bN_eq n (by omega) i (by omega)) ?_
        have hbN4 := bN_le n i
        refine lv_iconst (v := 1) hx hb d_Mo_placeOf_21 (by decide) ?_
        refine lv_icmp_ne (tgt := 31) hx hb d_Mo_placeOf_22 (by decide) (fun hb5 => ?_) (fun hb5 => ?_)
        · skip
          replace hb5 := cv_ne (a := bN n i) (b := 1) (by omega) (by omega) hb5
          refine lv_iload_n hx hb d_Mo_placeOf_31 rfl (lv_at hl 3 rfl) ?_
          refine lv_istore_n (lv' := [(3, .int (nI q)), (0, .int (nI n)), (1, .int (nI k)), (2, .int (nI i))]) hx hb d_Mo_placeOf_32 rfl hl (by decide) rfl (fun ls hln => ?_)
          replace hl : lv_has ls 4 [(3, .int (nI q)), (0, .int (nI n)), (1, .int (nI k)), (2, .int (nI i))] := hln
          clear hln
          refine lv_iinc (k := 3) (v := nI (i + 1)) (lv' := [(2, .int (nI (i + 1))), (3, .int (nI q)), (0, .int (nI n)), (1, .int (nI k))]) hx hb d_Mo_placeOf_33 hl rfl (nI_1 _) (by decide) rfl (fun ls hln => ?_)
          replace hl : lv_has ls 4 [(2, .int (nI (i + 1))), (3, .int (nI q)), (0, .int (nI n)), (1, .int (nI k))] := hln
          clear hln
          refine lv_goto (tgt := 4) hx hb d_Mo_placeOf_36 (by decide) ?_
          exact hloop1_ih q (i + 1) (by first | assumption | omega | trivial | exact AllLt.zero | exact AllN.zero | exact AllM.zero | exact Or.inl rfl | exact Or.inr rfl) (by first | assumption | omega | trivial | exact AllLt.zero | exact AllN.zero | exact AllM.zero | exact Or.inl rfl | exact Or.inr rfl) _ _ ls (lv_sub hl [2, 3, 0, 1] rfl) (hP.sub [] rfl) (hD.sub [] (by decide) rfl) hS (by omega)
        · skip
          replace hb5 := cv_eq (a := bN n i) (b := 1) (by omega) (by omega) hb5
          refine lv_iload_n hx hb d_Mo_placeOf_25 rfl (lv_at hl 3 rfl) ?_
          refine lv_iconst (v := 1) hx hb d_Mo_placeOf_26 (by decide) ?_
          refine lv_isub hx hb d_Mo_placeOf_27 ?_
          refine ci_i (y := nI (q - 1)) (cv_sub (a := q) (b := 1) (by omega)) ?_
          refine lv_goto (tgt := 32) hx hb d_Mo_placeOf_28 (by decide) ?_
          refine lv_istore_n (lv' := [(3, .int (nI (q - 1))), (0, .int (nI n)), (1, .int (nI k)), (2, .int (nI i))]) hx hb d_Mo_placeOf_32 rfl hl (by decide) rfl (fun ls hln => ?_)
          replace hl : lv_has ls 4 [(3, .int (nI (q - 1))), (0, .int (nI n)), (1, .int (nI k)), (2, .int (nI i))] := hln
          clear hln
          refine lv_iinc (k := 3) (v := nI (i + 1)) (lv' := [(2, .int (nI (i + 1))), (3, .int (nI (q - 1))), (0, .int (nI n)), (1, .int (nI k))]) hx hb d_Mo_placeOf_33 hl rfl (nI_1 _) (by decide) rfl (fun ls hln => ?_)
          replace hl : lv_has ls 4 [(2, .int (nI (i + 1))), (3, .int (nI (q - 1))), (0, .int (nI n)), (1, .int (nI k))] := hln
          clear hln
          refine lv_goto (tgt := 4) hx hb d_Mo_placeOf_36 (by decide) ?_
          exact hloop1_ih (q - 1) (i + 1) (by first | assumption | omega | trivial | exact AllLt.zero | exact AllN.zero | exact AllM.zero | exact Or.inl rfl | exact Or.inr rfl) (by first | assumption | omega | trivial | exact AllLt.zero | exact AllN.zero | exact AllM.zero | exact Or.inl rfl | exact Or.inr rfl) _ _ ls (lv_sub hl [2, 3, 0, 1] rfl) (hP.sub [] rfl) (hD.sub [] (by decide) rfl) hS (by omega)
      · skip
        replace hb3 := cv_ne (a := bN n i) (b := 0) (by omega) (by omega) hb3
        refine lv_iload_n hx hb d_Mo_placeOf_12 rfl (lv_at hl 3 rfl) ?_
        refine lv_if_le (tgt := 39) hx hb d_Mo_placeOf_13 (by decide) (fun hb6 => ?_) (fun hb6 => ?_)
        · skip
          replace hb6 := cv_le (a := q) (b := 0) (by omega) (by omega) hb6
          refine lv_iload_n hx hb d_Mo_placeOf_39 rfl (lv_at hl 2 rfl) ?_
          have hP9 := hP.sub (ws' := []) [] rfl
          have hD9 := hD.sub (ws' := []) [] (by decide) rfl
          subst hQ
          exact W.iret (v := nI i) hx hb hr (fun t9 ht9 hW => ⟨⟨nI i, (), rfl, ⟨i, ⟨by omega, (po_get hn hi8 hb3 (by omega)).symm⟩, rfl⟩, by rw [ht9]; exact hP9, hD9⟩, hS.F ht9⟩) hS.2.2 d_Mo_placeOf_40
        · skip
          replace hb6 := cv_nle (a := q) (b := 0) (by omega) (by omega) hb6
          refine lv_iload_n hx hb d_Mo_placeOf_16 rfl (lv_at hl 0 rfl) ?_
          refine lv_iload_n hx hb d_Mo_placeOf_17 rfl (lv_at hl 2 rfl) ?_
          refine lv_ishr hx hb d_Mo_placeOf_18 ?_
          refine lv_iconst (v := 1) hx hb d_Mo_placeOf_19 (by decide) ?_
          refine lv_iand hx hb d_Mo_placeOf_20 ?_
          refine ci_i (y := nI (bN n i)) (bN_eq n (by omega) i (by omega)) ?_
          have hbN7 := bN_le n i
          refine lv_iconst (v := 1) hx hb d_Mo_placeOf_21 (by decide) ?_
          refine lv_icmp_ne (tgt := 31) hx hb d_Mo_placeOf_22 (by decide) (fun hb8 => ?_) (fun hb8 => ?_)
          · skip
            replace hb8 := cv_ne (a := bN n i) (b := 1) (by omega) (by omega) hb8
            refine lv_iload_n hx hb d_Mo_placeOf_31 rfl (lv_at hl 3 rfl) ?_
            refine lv_istore_n (lv' := [(3, .int (nI q)), (0, .int (nI n)), (1, .int (nI k)), (2, .int (nI i))]) hx hb d_Mo_placeOf_32 rfl hl (by decide) rfl (fun ls hln => ?_)
            replace hl : lv_has ls 4 [(3, .int (nI q)), (0, .int (nI n)), (1, .int (nI k)), (2, .int (nI i))] := hln
            clear hln
            refine lv_iinc (k := 3) (v := nI (i + 1)) (lv' := [(2, .int (nI (i + 1))), (3, .int (nI q)), (0, .int (nI n)), (1, .int (nI k))]) hx hb d_Mo_placeOf_33 hl rfl (nI_1 _) (by decide) rfl (fun ls hln => ?_)
            replace hl : lv_has ls 4 [(2, .int (nI (i + 1))), (3, .int (nI q)), (0, .int (nI n)), (1, .int (nI k))] := hln
            clear hln
            refine lv_goto (tgt := 4) hx hb d_Mo_placeOf_36 (by decide) ?_
            exact hloop1_ih q (i + 1) (by first | assumption | omega | trivial | exact AllLt.zero | exact AllN.zero | exact AllM.zero | exact Or.inl rfl | exact Or.inr rfl) (by first | assumption | omega | trivial | exact AllLt.zero | exact AllN.zero | exact AllM.zero | exact Or.inl rfl | exact Or.inr rfl) _ _ ls (lv_sub hl [2, 3, 0, 1] rfl) (hP.sub [] rfl) (hD.sub [] (by decide) rfl) hS (by omega)
          · skip
            replace hb8 := cv_eq (a := bN n i) (b := 1) (by omega) (by omega) hb8
            refine lv_iload_n hx hb d_Mo_placeOf_25 rfl (lv_at hl 3 rfl) ?_
            refine lv_iconst (v := 1) hx hb d_Mo_placeOf_26 (by decide) ?_
            refine lv_isub hx hb d_Mo_placeOf_27 ?_
            refine ci_i (y := nI (q - 1)) (cv_sub (a := q) (b := 1) (by omega)) ?_
            refine lv_goto (tgt := 32) hx hb d_Mo_placeOf_28 (by decide) ?_
            refine lv_istore_n (lv' := [(3, .int (nI (q - 1))), (0, .int (nI n)), (1, .int (nI k)), (2, .int (nI i))]) hx hb d_Mo_placeOf_32 rfl hl (by decide) rfl (fun ls hln => ?_)
            replace hl : lv_has ls 4 [(3, .int (nI (q - 1))), (0, .int (nI n)), (1, .int (nI k)), (2, .int (nI i))] := hln
            clear hln
            refine lv_iinc (k := 3) (v := nI (i + 1)) (lv' := [(2, .int (nI (i + 1))), (3, .int (nI (q - 1))), (0, .int (nI n)), (1, .int (nI k))]) hx hb d_Mo_placeOf_33 hl rfl (nI_1 _) (by decide) rfl (fun ls hln => ?_)
            replace hl : lv_has ls 4 [(2, .int (nI (i + 1))), (3, .int (nI (q - 1))), (0, .int (nI n)), (1, .int (nI k))] := hln
            clear hln
            refine lv_goto (tgt := 4) hx hb d_Mo_placeOf_36 (by decide) ?_
            exact hloop1_ih (q - 1) (i + 1) (by first | assumption | omega | trivial | exact AllLt.zero | exact AllN.zero | exact AllM.zero | exact Or.inl rfl | exact Or.inr rfl) (by first | assumption | omega | trivial | exact AllLt.zero | exact AllN.zero | exact AllM.zero | exact Or.inl rfl | exact Or.inr rfl) _ _ ls (lv_sub hl [2, 3, 0, 1] rfl) (hP.sub [] rfl) (hD.sub [] (by decide) rfl) hS (by omega)
  exact hloop1 ((8 - 0) + 1) k 0 (by first | assumption | omega | trivial | exact AllLt.zero | exact AllN.zero | exact AllM.zero | exact Or.inl rfl | exact Or.inr rfl) (by first | assumption | omega | trivial | exact AllLt.zero | exact AllN.zero | exact AllM.zero | exact Or.inl rfl | exact Or.inr rfl) _ _ ls (lv_sub hl [2, 3, 1, 0] rfl) hP hD hS (Nat.lt_succ_self _)

set_option maxHeartbeats 4000000 in
set_option maxRecDepth 100000 in
theorem e_Mo_further (l : Launch) (dC : Nat → ClassId) (dI : Nat → Nat → Nat) (cI cL cZ : ClassId) (sz : Nat) (m0 : Nat) (m1 : Nat) (m2 : Nat) (m3 : Nat) (m4 : Nat) (m5 : Nat) (m6 : Nat) (m7 : Nat) (m8 : Nat) (m9 : Nat) (m10 : Nat) (m11 : Nat) (m12 : Nat) (m13 : Nat) (m14 : Nat) (m15 : Nat) (m16 : Nat) (m17 : Nat) (mth : Int32) (mt : Nat) (mf : Int32) (mcd : Nat) (mev : Nat) (mwh : Int32) (mps : Int32) (mlr : Int64) (mlt : Nat) (mlm : Nat) (mln : Int32) (gpl : Nat → Int32) (x : Int32) (y : Nat) (z : Int64) (Z : Nat → Prop) (pl : Nat → Nat) (hcd : mcd ≤ 60) (hxq : x = -1 ∨ ∃ j, j < 60 ∧ x = nI j) (hy8 : y < 8) (hPla : PlaI mcd gpl pl) (hZB : ∀ c, c < mcd → (hasv z c = 0 ↔ ¬ Z c)) : Met l y_Mo_further (Cond.code y_Mo_further prog_11_method_20_code 6 (some .int) :: wsA) { frames := 1, cells := 0, slots := 0, locals := 22 } (va_Pc [.ref m0, .int x, .int (nI y), .long z] (fun U => U.heap.size = sz ∧ va_P (dC, dI) clA [(m0, .inr (9, [.int mth, .int (nI mt), .ref m1, .ref m2, .int mf, .int (nI mcd), .ref m3, .ref m4, .ref m5, .ref m6, .int (nI mev), .ref m7, .ref m8, .ref m9, .ref m10, .ref m11, .ref m12, .ref m13, .int mwh, .int mps, .ref m14, .ref m15, .long mlr, .int (nI mlt), .int (nI mlm), .ref m16, .int mln, .ref m17])), (m3, .inl (cI, 60, .inl gpl))] U.heap ∧ va_K (dC, dI) clA [(cI, .int), (cL, .long), (cZ, .boolean)] U ∧ va_D (fun _ => True) [(m0, .inr (9, [.int mth, .int (nI mt), .ref m1, .ref m2, .int mf, .int (nI mcd), .ref m3, .ref m4, .ref m5, .ref m6, .int (nI mev), .ref m7, .ref m8, .ref m9, .ref m10, .ref m11, .ref m12, .ref m13, .int mwh, .int mps, .ref m14, .ref m15, .long mlr, .int (nI mlt), .int (nI mlm), .ref m16, .int mln, .ref m17])), (m3, .inl (cI, 60, .inl gpl))] ∧ NwA U)) (va_Qi (fun r (_ : Unit) => ((r = -1 ∧ (∀ d, gof x ≤ d → d < mcd → ¬ (Z d ∧ pl d = y))) ∨ ∃ j, j < mcd ∧ gof x ≤ j ∧ (Z j ∧ pl j = y) ∧ (∀ d, gof x ≤ d → d < j → ¬ (Z d ∧ pl d = y)) ∧ r = nI j)) (fun _ t => va_P (dC, dI) clA [(m0, .inr (9, [.int mth, .int (nI mt), .ref m1, .ref m2, .int mf, .int (nI mcd), .ref m3, .ref m4, .ref m5, .ref m6, .int (nI mev), .ref m7, .ref m8, .ref m9, .ref m10, .ref m11, .ref m12, .ref m13, .int mwh, .int mps, .ref m14, .ref m15, .long mlr, .int (nI mlt), .int (nI mlm), .ref m16, .int mln, .ref m17])), (m3, .inl (cI, 60, .inl gpl))] t.heap ∧ va_D (va_A [(m0, .inr (9, [.int mth, .int (nI mt), .ref m1, .ref m2, .int mf, .int (nI mcd), .ref m3, .ref m4, .ref m5, .ref m6, .int (nI mev), .ref m7, .ref m8, .ref m9, .ref m10, .ref m11, .ref m12, .ref m13, .int mwh, .int mps, .ref m14, .ref m15, .long mlr, .int (nI mlt), .int (nI mlm), .ref m16, .int mln, .ref m17])), (m3, .inl (cI, 60, .inl gpl))] sz) [(m0, .inr (9, [.int mth, .int (nI mt), .ref m1, .ref m2, .int mf, .int (nI mcd), .ref m3, .ref m4, .ref m5, .ref m6, .int (nI mev), .ref m7, .ref m8, .ref m9, .ref m10, .ref m11, .ref m12, .ref m13, .int mwh, .int mps, .ref m14, .ref m15, .long mlr, .int (nI mlt), .int (nI mlm), .ref m16, .int mln, .ref m17])), (m3, .inl (cI, 60, .inl gpl))]) (va_A [(m0, .inr (9, [.int mth, .int (nI mt), .ref m1, .ref m2, .int mf, .int (nI mcd), .ref m3, .ref m4, .ref m5, .ref m6, .int (nI mev), .ref m7, .ref m8, .ref m9, .ref m10, .ref m11, .ref m12, .ref m13, .int mwh, .int mps, .ref m14, .ref m15, .long mlr, .int (nI mlt), .int (nI mlm), .ref m16, .int mln, .ref m17])), (m3, .inl (cI, 60, .inl gpl))] sz)) 0 0 (va_A [(m0, .inr (9, [.int mth, .int (nI mt), .ref m1, .ref m2, .int mf, .int (nI mcd), .ref m3, .ref m4, .ref m5, .ref m6, .int (nI mev), .ref m7, .ref m8, .ref m9, .ref m10, .ref m11, .ref m12, .ref m13, .int mwh, .int mps, .ref m14, .ref m15, .long mlr, .int (nI mlt), .int (nI mlm), .ref m16, .int mln, .ref m17])), (m3, .inl (cI, 60, .inl gpl))] sz) := by
  refine Met.ofW (cc := prog_11_method_20_code) (maxL := 6) (ret := (some .int)) (by decide) rfl ?_
  intro p e s m args below meth c s₁ B hml hv
  obtain ⟨rfl, hsz, hP, hK, hD0, hN⟩ := hv
  have hx := B.exec
  have hb := B.bytes
  have hr := B.returns
  have ht : ∀ w ∈ wsA, w.before _ s = true := fun w h => atoms_spec (ws := (Cond.code y_Mo_further prog_11_method_20_code 6 (some .int) :: wsA)) B.pre w (List.mem_cons_of_mem _ h)
  have hown : s.vm.findClass "NetUnfolderModel" = some m.cls := findClass_of_methodNamed B.named
  have hlocks := B.notSynchronized
  subst hsz
  have hD := hD0.self (sz := s.heap.size)
  generalize hAe : va_A [(m0, .inr (9, [.int mth, .int (nI mt), .ref m1, .ref m2, .int mf, .int (nI mcd), .ref m3, .ref m4, .ref m5, .ref m6, .int (nI mev), .ref m7, .ref m8, .ref m9, .ref m10, .ref m11, .ref m12, .ref m13, .int mwh, .int mps, .ref m14, .ref m15, .long mlr, .int (nI mlt), .int (nI mlm), .ref m16, .int mln, .ref m17])), (m3, .inl (cI, 60, .inl gpl))] s.heap.size = A at hD ⊢
  have hA : ∀ q : Nat, s.heap.size ≤ q → A q := fun q h => by rw [← hAe]; exact Or.inr h
  have hS : va_S A s.heap s.heap [] := va_S.rf
  have hl := lv_entry ([.ref m0, .int x, .int (nI y), .long z]) (n := 6) (Nat.le_of_ble_eq_true rfl)
  rw [lg_entry_eq]
  generalize (lg_sl ([.ref m0, .int x, .int (nI y), .long z]) ++ List.replicate (6 - (lg_sl ([.ref m0, .int x, .int (nI y), .long z])).length) Slot.unset).toArray = ls at hl ⊢
  replace hl : lv_has ls 6 [(0, .ref m0), (1, .int x), (2, .int (nI y)), (3, .long z)] := hl
  refine W_Q (fun Q hQ => ?_)
  refine lv_iload_n hx hb d_Mo_further_0 rfl (lv_at hl 1 rfl) ?_
  refine lv_iconst (v := 1) hx hb d_Mo_further_1 (by decide) ?_
  refine lv_iadd hx hb d_Mo_further_2 ?_
  obtain ⟨a9, a9_l, a9_e, a9_g⟩ := fur_s hxq
  refine ci_i (y := nI a9) a9_e ?_
  refine lv_istore (lv' := [(5, .int (nI a9)), (0, .ref m0), (1, .int x), (2, .int (nI y)), (3, .long z)]) hx hb d_Mo_further_3 hl (by decide) rfl (fun ls hln => ?_)
  replace hl : lv_has ls 6 [(5, .int (nI a9)), (0, .ref m0), (1, .int x), (2, .int (nI y)), (3, .long z)] := hln
  clear hln
  have hloop1 : ∀ (n5 : Nat) (i : Nat) (hi : a9 ≤ i) (hi2 : i ≤ 60) (hno : ∀ d, a9 ≤ d → d < i → ¬ (Z d ∧ pl d = y)) (H : Heap) (locs : List Loc) (ls : Array Slot) (hl : lv_has ls 6 [(0, .ref m0), (1, .int x), (2, .int (nI y)), (3, .long z), (5, .int (nI i))]) (hP : va_P (dC, dI) clA [(m0, .inr (9, [.int mth, .int (nI mt), .ref m1, .ref m2, .int mf, .int (nI mcd), .ref m3, .ref m4, .ref m5, .ref m6, .int (nI mev), .ref m7, .ref m8, .ref m9, .ref m10, .ref m11, .ref m12, .ref m13, .int mwh, .int mps, .ref m14, .ref m15, .long mlr, .int (nI mlt), .int (nI mlm), .ref m16, .int mln, .ref m17])), (m3, .inl (cI, 60, .inl gpl))] H) (hD : va_D A [(m0, .inr (9, [.int mth, .int (nI mt), .ref m1, .ref m2, .int mf, .int (nI mcd), .ref m3, .ref m4, .ref m5, .ref m6, .int (nI mev), .ref m7, .ref m8, .ref m9, .ref m10, .ref m11, .ref m12, .ref m13, .int mwh, .int mps, .ref m14, .ref m15, .long mlr, .int (nI mlt), .int (nI mlm), .ref m16, .int mln, .ref m17])), (m3, .inl (cI, 60, .inl gpl))]) (hS : va_S A s.heap H locs) (hm5 : 60 - i < n5), W p l e (headSpec (Cond.code y_Mo_further prog_11_method_20_code 6 (some .int) :: wsA) { frames := 1, cells := 0, slots := 0, locals := 22 }).room s m ([.ref m0, .int x, .int (nI y), .long z] : List Value).toArray below meth c H locs 0 0 Q (F0 m 5 ls []) := by
    clear hl hP hD hS
    intro n5
    induction n5 with
    | zero => intro i hi hi2 hno H locs ls hl hP hD hS hm; exact absurd hm (Nat.not_lt_zero _)
    | succ n5 hloop1_ih =>
      intro i hi hi2 hno H locs ls hl hP hD hS hm5
      refine lv_iload hx hb d_Mo_further_5 (lv_at hl 4 rfl) ?_
      refine lv_aload_n hx hb d_Mo_further_7 rfl (lv_at hl 0 rfl) ?_
      refine va_get (D := (dC, dI)) (ci := 9) (v := .int (nI mcd)) (C := "NetUnfolderModel") (T := T_Mo) (N := 28) hx hb ht in_Mo hown hK hP 0 rfl rfl 5 (by decide) (ht _ wd_4_5) (fun _ h9 => h9) rfl d_Mo_further_8 ?_
      refine lv_icmp_ge (tgt := 43) hx hb d_Mo_further_11 (by decide) (fun hb2 => ?_) (fun hb2 => ?_)
      · skip
        replace hb2 := cv_le (a := mcd) (b := i) (by omega) (by omega) hb2
        refine lv_iconst (v := (-1)) hx hb d_Mo_further_43 (by decide) ?_
        have hP9 := hP.sub (ws' := [(m0, .inr (9, [.int mth, .int (nI mt), .ref m1, .ref m2, .int mf, .int (nI mcd), .ref m3, .ref m4, .ref m5, .ref m6, .int (nI mev), .ref m7, .ref m8, .ref m9, .ref m10, .ref m11, .ref m12, .ref m13, .int mwh, .int mps, .ref m14, .ref m15, .long mlr, .int (nI mlt), .int (nI mlm), .ref m16, .int mln, .ref m17])), (m3, .inl (cI, 60, .inl gpl))]) [0, 1] rfl
        have hD9 := hD.sub (ws' := [(m0, .inr (9, [.int mth, .int (nI mt), .ref m1, .ref m2, .int mf, .int (nI mcd), .ref m3, .ref m4, .ref m5, .ref m6, .int (nI mev), .ref m7, .ref m8, .ref m9, .ref m10, .ref m11, .ref m12, .ref m13, .int mwh, .int mps, .ref m14, .ref m15, .long mlr, .int (nI mlt), .int (nI mlm), .ref m16, .int mln, .ref m17])), (m3, .inl (cI, 60, .inl gpl))]) [0, 1] (by decide) rfl
        subst hQ
        exact W.iret (v := (-1)) hx hb hr (fun t9 ht9 hW => ⟨⟨(-1), (), rfl, (Or.inl ⟨rfl, fun d h1 h2 => hno d (by omega) (by omega)⟩), by rw [ht9]; exact hP9, hD9⟩, hS.F ht9⟩) hS.2.2 d_Mo_further_44
      · skip
        replace hb2 := cv_nle (a := mcd) (b := i) (by omega) (by omega) hb2
        refine lv_aload_n hx hb d_Mo_further_14 rfl (lv_at hl 0 rfl) ?_
        refine va_get (D := (dC, dI)) (ci := 9) (v := .ref m3) (C := "NetUnfolderModel") (T := T_Mo) (N := 28) hx hb ht in_Mo hown hK hP 0 rfl rfl 6 (by decide) (ht _ wd_4_6) (fun _ h9 => h9) rfl d_Mo_further_15 ?_
        refine lv_iload hx hb d_Mo_further_18 (lv_at hl 4 rfl) ?_
        refine na_iald (k := i) hx hb hK hP 1 0 rfl rfl (by omega) (by decide) d_Mo_further_20 ?_
        refine ci_i (y := nI (pl i)) (hPla i (by omega)).1 ?_
        have hp8 := (hPla i (by omega)).2
        refine lv_iload_n hx hb d_Mo_further_21 rfl (lv_at hl 2 rfl) ?_
        refine lv_icmp_ne (tgt := 37) hx hb d_Mo_further_22 (by decide) (fun hb3 => ?_) (fun hb3 => ?_)
        · skip
          replace hb3 := cv_ne (a := pl i) (b := y) (by omega) (by omega) hb3
          refine lv_iinc (k := 4) (v := nI (i + 1)) (lv' := [(5, .int (nI (i + 1))), (0, .ref m0), (1, .int x), (2, .int (nI y)), (3, .long z)]) hx hb d_Mo_further_37 hl rfl (nI_1 _) (by decide) rfl (fun ls hln => ?_)
          replace hl : lv_has ls 6 [(5, .int (nI (i + 1))), (0, .ref m0), (1, .int x), (2, .int (nI y)), (3, .long z)] := hln
          clear hln
          refine lv_goto (tgt := 5) hx hb d_Mo_further_40 (by decide) ?_
          exact hloop1_ih (i + 1) (by first | assumption | omega | trivial | exact AllLt.zero | exact AllN.zero | exact AllM.zero | exact Or.inl rfl | exact Or.inr rfl) (by first | assumption | omega | trivial | exact AllLt.zero | exact AllN.zero | exact AllM.zero | exact Or.inl rfl | exact Or.inr rfl) (fun d h1 h2 => by by_cases e8 : d = i; exact e8 ▸ (fun q => hb3 q.2); exact hno d h1 (by omega)) _ _ ls (lv_sub hl [1, 2, 3, 4, 0] rfl) (hP.sub [0, 1] rfl) (hD.sub [0, 1] (by decide) rfl) hS (by omega)
        · skip
          replace hb3 := cv_eq (a := pl i) (b := y) (by omega) (by omega) hb3
          refine lv_lload_n hx hb d_Mo_further_25 rfl (lv_at hl 3 rfl) ?_
          refine lv_iload hx hb d_Mo_further_26 (lv_at hl 4 rfl) ?_
          have hPc : va_P (dC, dI) clA [] _ := pu_P (H := H)
          have hDc : va_D (fun _ => True) [] := pu_D
          have hFc := pu_free hS hA
          refine va_calli (va_runS (As := [.long z, .int (nI i)]) (rest := []) ⟨hx, hb, hml, hown, ht⟩ (c_Mo_has l dC dI cI cL cZ _ z i (by first | assumption | omega | trivial | exact AllLt.zero | exact AllN.zero | exact AllM.zero | exact Or.inl rfl | exact Or.inr rfl)) (va_cwS 2 ht (good_S wd_4_121 wd_4_122 wd_1_10 wd_4_123) rfl rfl rfl (by decide +kernel) ⟨Nat.le_of_ble_eq_true rfl, Nat.le_of_ble_eq_true rfl⟩) ⟨fun a U g mk q => by obtain ⟨q0, q1, qP, qK, qD, qN⟩ := q; exact ⟨q0, q1, qP, va_K.moved (u := U) (U := U.calling g mk a) (Vm.Alike.refl U.vm) qK, qD, NwA.same (u := U) rfl qN⟩, fun U hU hW => ⟨rfl, by rw [hU], by rw [hU]; exact hPc, va_K.moved hW.alike hK, hDc.weaken (fun _ _ _ _ => trivial), NwA.warm hW hN⟩⟩ rfl rfl hl.1 rfl (lv_room (Nat.le_of_ble_eq_true rfl)) d_Mo_further_28 ⟨Nat.le_of_ble_eq_true rfl, Nat.le_of_ble_eq_true rfl⟩) hS (fun q _ h => hFc q h) hFc (fun r6 u9 t9 H4 locs ht9 hvm hw5 hB hz1 hk1 hSn => ?_)
          replace hP : va_P (dC, dI) clA [(m0, .inr (9, [.int mth, .int (nI mt), .ref m1, .ref m2, .int mf, .int (nI mcd), .ref m3, .ref m4, .ref m5, .ref m6, .int (nI mev), .ref m7, .ref m8, .ref m9, .ref m10, .ref m11, .ref m12, .ref m13, .int mwh, .int mps, .ref m14, .ref m15, .long mlr, .int (nI mlt), .int (nI mlm), .ref m16, .int mln, .ref m17])), (m3, .inl (cI, 60, .inl gpl))] H4 := pu_keep hP hk1
          replace hS := hSn
          clear hSn hPc hDc hFc hk1 hz1 ht9 hvm hB
          refine W.cs (cells' := 0) (slots' := 0) rfl rfl ?_
          subst hw5
          refine lv_if_eq (tgt := 37) hx hb d_Mo_further_31 (by decide) (fun hb7 => ?_) (fun hb7 => ?_)
          · skip
            refine lv_iinc (k := 4) (v := nI (i + 1)) (lv' := [(5, .int (nI (i + 1))), (0, .ref m0), (1, .int x), (2, .int (nI y)), (3, .long z)]) hx hb d_Mo_further_37 hl rfl (nI_1 _) (by decide) rfl (fun ls hln => ?_)
            replace hl : lv_has ls 6 [(5, .int (nI (i + 1))), (0, .ref m0), (1, .int x), (2, .int (nI y)), (3, .long z)] := hln
            clear hln
            refine lv_goto (tgt := 5) hx hb d_Mo_further_40 (by decide) ?_
            exact hloop1_ih (i + 1) (by first | assumption | omega | trivial | exact AllLt.zero | exact AllN.zero | exact AllM.zero | exact Or.inl rfl | exact Or.inr rfl) (by first | assumption | omega | trivial | exact AllLt.zero | exact AllN.zero | exact AllM.zero | exact Or.inl rfl | exact Or.inr rfl) (fun d h1 h2 => by by_cases e8 : d = i; exact e8 ▸ (fun q => (hZB i (by omega)).mp hb7 q.1); exact hno d h1 (by omega)) _ _ ls (lv_sub hl [1, 2, 3, 4, 0] rfl) (hP.sub [0, 1] rfl) (hD.sub [0, 1] (by decide) rfl) hS (by omega)
          · skip
            have hZi : Z i := Classical.byContradiction (fun z9 => hb7 ((hZB i (by omega)).mpr z9))
            refine lv_iload hx hb d_Mo_further_34 (lv_at hl 4 rfl) ?_
            have hP9 := hP.sub (ws' := [(m0, .inr (9, [.int mth, .int (nI mt), .ref m1, .ref m2, .int mf, .int (nI mcd), .ref m3, .ref m4, .ref m5, .ref m6, .int (nI mev), .ref m7, .ref m8, .ref m9, .ref m10, .ref m11, .ref m12, .ref m13, .int mwh, .int mps, .ref m14, .ref m15, .long mlr, .int (nI mlt), .int (nI mlm), .ref m16, .int mln, .ref m17])), (m3, .inl (cI, 60, .inl gpl))]) [0, 1] rfl
            have hD9 := hD.sub (ws' := [(m0, .inr (9, [.int mth, .int (nI mt), .ref m1, .ref m2, .int mf, .int (nI mcd), .ref m3, .ref m4, .ref m5, .ref m6, .int (nI mev), .ref m7, .ref m8, .ref m9, .ref m10, .ref m11, .ref m12, .ref m13, .int mwh, .int mps, .ref m14, .ref m15, .long mlr, .int (nI mlt), .int (nI mlm), .ref m16, .int mln, .ref m17])), (m3, .inl (cI, 60, .inl gpl))]) [0, 1] (by decide) rfl
            subst hQ
            exact W.iret (v := nI i) hx hb hr (fun t9 ht9 hW => ⟨⟨nI i, (), rfl, (Or.inr ⟨i, by omega, by omega, ⟨hZi, by omega⟩, fun d h1 h2 => hno d (by omega) h2, rfl⟩), by rw [ht9]; exact hP9, hD9⟩, hS.F ht9⟩) hS.2.2 d_Mo_further_36
  exact hloop1 ((60 - a9) + 1) a9 (by first | assumption | omega | trivial | exact AllLt.zero | exact AllN.zero | exact AllM.zero | exact Or.inl rfl | exact Or.inr rfl) (by first | assumption | omega | trivial | exact AllLt.zero | exact AllN.zero | exact AllM.zero | exact Or.inl rfl | exact Or.inr rfl) (fun d h1 h2 => by omega) _ _ ls (lv_sub hl [1, 2, 3, 4, 0] rfl) hP hD hS (Nat.lt_succ_self _)
