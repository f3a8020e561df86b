set_option maxHeartbeats 4000000 in
set_option maxRecDepth 100000 in
theorem c_Qu_placeBit (l : Launch) (dC : Nat → ClassId) (dI : Nat → Nat → Nat) (cI cL cZ : ClassId) (sz : Nat) (k : Nat) (hk : k < 8) : Met l y_Qu_placeBit (Cond.code y_Qu_placeBit prog_6_method_5_code 1 (some .long) :: wsA) { frames := 0, cells := 0, slots := 0, locals := 0 } (va_Pc [.int (nI k)] (fun U => U.heap.size = sz ∧ va_P (dC, dI) clA [] U.heap ∧ va_K (dC, dI) clA [(cI, .int), (cL, .long), (cZ, .boolean)] U ∧ va_D (fun _ => True) [] ∧ NwA U)) (va_Ql (fun r (_ : Unit) => (M38 r)) (fun _ t => va_P (dC, dI) clA [] t.heap ∧ va_D (va_A [] sz) []) (va_A [] sz)) 0 0 (va_A [] sz) := by
  refine Met.ofW (cc := prog_6_method_5_code) (maxL := 1) (ret := (some .long)) (by decide) rfl ?_
  intro p e s m args below meth c s₁ B hml hv
  obtain ⟨rfl, hsz, hP, hK, hD0, hN⟩ := hv
  have hx := B.exec
  have hb := B.bytes
  have hr := B.returns
  have ht : ∀ w ∈ wsA, w.before _ s = true := fun w h => atoms_spec (ws := (Cond.code y_Qu_placeBit prog_6_method_5_code 1 (some .long) :: wsA)) B.pre w (List.mem_cons_of_mem _ h)
  have hown : s.vm.findClass "NetUnfolder$Question" = some m.cls := findClass_of_methodNamed B.named
  have hlocks := B.notSynchronized
  subst hsz
  have hD := hD0.self (sz := s.heap.size)
  generalize hAe : va_A [] s.heap.size = A at hD ⊢
  have hA : ∀ q : Nat, s.heap.size ≤ q → A q := fun q h => by rw [← hAe]; exact Or.inr h
  have hS : va_S A s.heap s.heap [] := va_S.rf
  have hl := lv_entry ([.int (nI k)]) (n := 1) (Nat.le_of_ble_eq_true rfl)
  rw [lg_entry_eq]
  generalize (lg_sl ([.int (nI k)]) ++ List.replicate (1 - (lg_sl ([.int (nI k)])).length) Slot.unset).toArray = ls at hl ⊢
  replace hl : lv_has ls 1 [(0, .int (nI k))] := hl
  refine W_Q (fun Q hQ => ?_)
  refine lv_lconst (v := 1) hx hb d_Qu_placeBit_0 (by decide) ?_
  refine lv_bipush (v := 30) hx hb d_Qu_placeBit_1 (by decide) ?_
  refine lv_iload_n hx hb d_Qu_placeBit_3 rfl (lv_at hl 0 rfl) ?_
  refine lv_iadd hx hb d_Qu_placeBit_4 ?_
  refine ci_i (y := nI (30 + k)) (cv_add 30 k) ?_
  refine lv_lshl (v := 1 <<< (Int32.toInt64 (nI (30 + k)) &&& 63)) hx hb d_Qu_placeBit_5 rfl ?_
  have hP9 := hP.sub (ws' := []) [] rfl
  have hD9 := hD.sub (ws' := []) [] (by decide) rfl
  subst hQ
  exact W.lret (v := 1 <<< (Int32.toInt64 (nI (30 + k)) &&& 63)) hx hb hr (fun t9 ht9 hW => ⟨⟨1 <<< (Int32.toInt64 (nI (30 + k)) &&& 63), (), rfl, (M38.bit (by omega)), by rw [ht9]; exact hP9, hD9⟩, hS.F ht9⟩) hS.2.2 d_Qu_placeBit_6

set_option maxHeartbeats 4000000 in
set_option maxRecDepth 100000 in
theorem c_Qu_makersOf (l : Launch) (dC : Nat → ClassId) (dI : Nat → Nat → Nat) (cI cL cZ : ClassId) (sz : Nat) (q0 : Nat) (s0 : Nat) (qu : Nat) (n0 : Nat) (w0 : Nat) (f0 : Nat) (f1 : Nat) (f2 : Nat) (f3 : Nat) (f4 : Nat) (f5 : Nat) (f6 : Nat) (f7 : Nat) (f8 : Nat) (f9 : Nat) (f10 : Nat) (pfc : Nat) (pfe : Nat) (pfu : Int32) (pfw : Int32) (fpl : Nat → Int32) (fmk : Nat → Int32) (fca : Nat → Int32) (k0 : Nat) (x : Nat) (y : Int32) (hpc : pfc ≤ 60) (hmk : AllN fmk pfc 30) (hy : y = -1 ∨ ∃ k, k < 30 ∧ y = nI k) : Met l y_Qu_makersOf (Cond.code y_Qu_makersOf prog_6_method_9_code 7 (some .long) :: wsA) { frames := 1, cells := 0, slots := 0, locals := 22 } (va_Pc [.ref q0, .int (nI x), .int y] (fun U => U.heap.size = sz ∧ va_P (dC, dI) clA [(q0, .inr (6, [.ref n0, .ref f0, .ref w0, .ref k0, .ref s0, .int (nI qu)])), (f0, .inr (2, [.int (nI pfc), .ref f1, .ref f2, .ref f3, .ref f4, .ref f5, .int (nI pfe), .ref f6, .ref f7, .ref f8, .ref f9, .ref f10, .int pfu, .int pfw])), (f1, .inl (cI, 60, .inl fpl)), (f2, .inl (cI, 60, .inl fmk)), (f8, .inl (cI, 30, .inl fca))] U.heap ∧ va_K (dC, dI) clA [(cI, .int), (cL, .long), (cZ, .boolean)] U ∧ va_D (fun _ => True) [(q0, .inr (6, [.ref n0, .ref f0, .ref w0, .ref k0, .ref s0, .int (nI qu)])), (f0, .inr (2, [.int (nI pfc), .ref f1, .ref f2, .ref f3, .ref f4, .ref f5, .int (nI pfe), .ref f6, .ref f7, .ref f8, .ref f9, .ref f10, .int pfu, .int pfw])), (f1, .inl (cI, 60, .inl fpl)), (f2, .inl (cI, 60, .inl fmk)), (f8, .inl (cI, 30, .inl fca))] ∧ NwA U)) (va_Ql (fun r (_ : Unit) => (M38 r)) (fun _ t => va_P (dC, dI) clA [(q0, .inr (6, [.ref n0, .ref f0, .ref w0, .ref k0, .ref s0, .int (nI qu)])), (f0, .inr (2, [.int (nI pfc), .ref f1, .ref f2, .ref f3, .ref f4, .ref f5, .int (nI pfe), .ref f6, .ref f7, .ref f8, .ref f9, .ref f10, .int pfu, .int pfw])), (f1, .inl (cI, 60, .inl fpl)), (f2, .inl (cI, 60, .inl fmk)), (f8, .inl (cI, 30, .inl fca))] t.heap ∧ va_D (va_A [(q0, .inr (6, [.ref n0, .ref f0, .ref w0, .ref k0, .ref s0, .int (nI qu)])), (f0, .inr (2, [.int (nI pfc), .ref f1, .ref f2, .ref f3, .ref f4, .ref f5, .int (nI pfe), .ref f6, .ref f7, .ref f8, .ref f9, .ref f10, .int pfu, .int pfw])), (f1, .inl (cI, 60, .inl fpl)), (f2, .inl (cI, 60, .inl fmk)), (f8, .inl (cI, 30, .inl fca))] sz) [(q0, .inr (6, [.ref n0, .ref f0, .ref w0, .ref k0, .ref s0, .int (nI qu)])), (f0, .inr (2, [.int (nI pfc), .ref f1, .ref f2, .ref f3, .ref f4, .ref f5, .int (nI pfe), .ref f6, .ref f7, .ref f8, .ref f9, .ref f10, .int pfu, .int pfw])), (f1, .inl (cI, 60, .inl fpl)), (f2, .inl (cI, 60, .inl fmk)), (f8, .inl (cI, 30, .inl fca))]) (va_A [(q0, .inr (6, [.ref n0, .ref f0, .ref w0, .ref k0, .ref s0, .int (nI qu)])), (f0, .inr (2, [.int (nI pfc), .ref f1, .ref f2, .ref f3, .ref f4, .ref f5, .int (nI pfe), .ref f6, .ref f7, .ref f8, .ref f9, .ref f10, .int pfu, .int pfw])), (f1, .inl (cI, 60, .inl fpl)), (f2, .inl (cI, 60, .inl fmk)), (f8, .inl (cI, 30, .inl fca))] sz)) 0 0 (va_A [(q0, .inr (6, [.ref n0, .ref f0, .ref w0, .ref k0, .ref s0, .int (nI qu)])), (f0, .inr (2, [.int (nI pfc), .ref f1, .ref f2, .ref f3, .ref f4, .ref f5, .int (nI pfe), .ref f6, .ref f7, .ref f8, .ref f9, .ref f10, .int pfu, .int pfw])), (f1, .inl (cI, 60, .inl fpl)), (f2, .inl (cI, 60, .inl fmk)), (f8, .inl (cI, 30, .inl fca))] sz) := by
  refine Met.ofW (cc := prog_6_method_9_code) (maxL := 7) (ret := (some .long)) (by decide) rfl ?_
  intro p e s m args below meth c s₁ B hml hv
  obtain ⟨rfl, hsz, hP, hK, hD0, hN⟩ := hv
  have hx := B.exec
  have hb := B.bytes
  have hr := B.returns
  have ht : ∀ w ∈ wsA, w.before _ s = true := fun w h => atoms_spec (ws := (Cond.code y_Qu_makersOf prog_6_method_9_code 7 (some .long) :: wsA)) B.pre w (List.mem_cons_of_mem _ h)
  have hown : s.vm.findClass "NetUnfolder$Question" = some m.cls := findClass_of_methodNamed B.named
  have hlocks := B.notSynchronized
  subst hsz
  have hD := hD0.self (sz := s.heap.size)
  generalize hAe : va_A [(q0, .inr (6, [.ref n0, .ref f0, .ref w0, .ref k0, .ref s0, .int (nI qu)])), (f0, .inr (2, [.int (nI pfc), .ref f1, .ref f2, .ref f3, .ref f4, .ref f5, .int (nI pfe), .ref f6, .ref f7, .ref f8, .ref f9, .ref f10, .int pfu, .int pfw])), (f1, .inl (cI, 60, .inl fpl)), (f2, .inl (cI, 60, .inl fmk)), (f8, .inl (cI, 30, .inl fca))] s.heap.size = A at hD ⊢
  have hA : ∀ q : Nat, s.heap.size ≤ q → A q := fun q h => by rw [← hAe]; exact Or.inr h
  have hS : va_S A s.heap s.heap [] := va_S.rf
  have hl := lv_entry ([.ref q0, .int (nI x), .int y]) (n := 7) (Nat.le_of_ble_eq_true rfl)
  rw [lg_entry_eq]
  generalize (lg_sl ([.ref q0, .int (nI x), .int y]) ++ List.replicate (7 - (lg_sl ([.ref q0, .int (nI x), .int y])).length) Slot.unset).toArray = ls at hl ⊢
  replace hl : lv_has ls 7 [(0, .ref q0), (1, .int (nI x)), (2, .int y)] := hl
  refine W_Q (fun Q hQ => ?_)
  refine lv_lconst (v := 0) hx hb d_Qu_makersOf_0 (by decide) ?_
  refine lv_lstore_n (lv' := [(3, .long 0), (0, .ref q0), (1, .int (nI x)), (2, .int y)]) hx hb d_Qu_makersOf_1 rfl hl (by decide) rfl (fun ls hln => ?_)
  replace hl : lv_has ls 7 [(3, .long 0), (0, .ref q0), (1, .int (nI x)), (2, .int y)] := hln
  clear hln
  refine lv_iconst (v := 0) hx hb d_Qu_makersOf_2 (by decide) ?_
  refine lv_istore (lv' := [(5, .int 0), (3, .long 0), (0, .ref q0), (1, .int (nI x)), (2, .int y)]) hx hb d_Qu_makersOf_3 hl (by decide) rfl (fun ls hln => ?_)
  replace hl : lv_has ls 7 [(5, .int 0), (3, .long 0), (0, .ref q0), (1, .int (nI x)), (2, .int y)] := hln
  clear hln
  have hloop1 : ∀ (n5 : Nat) (v : Int64) (i : Nat) (hv : M38 v) (hi : i ≤ pfc) (H : Heap) (locs : List Loc) (ls : Array Slot) (hl : lv_has ls 7 [(0, .ref q0), (1, .int (nI x)), (2, .int y), (3, .long v), (5, .int (nI i))]) (hP : va_P (dC, dI) clA [(q0, .inr (6, [.ref n0, .ref f0, .ref w0, .ref k0, .ref s0, .int (nI qu)])), (f0, .inr (2, [.int (nI pfc), .ref f1, .ref f2, .ref f3, .ref f4, .ref f5, .int (nI pfe), .ref f6, .ref f7, .ref f8, .ref f9, .ref f10, .int pfu, .int pfw])), (f1, .inl (cI, 60, .inl fpl)), (f2, .inl (cI, 60, .inl fmk)), (f8, .inl (cI, 30, .inl fca))] H) (hD : va_D A [(q0, .inr (6, [.ref n0, .ref f0, .ref w0, .ref k0, .ref s0, .int (nI qu)])), (f0, .inr (2, [.int (nI pfc), .ref f1, .ref f2, .ref f3, .ref f4, .ref f5, .int (nI pfe), .ref f6, .ref f7, .ref f8, .ref f9, .ref f10, .int pfu, .int pfw])), (f1, .inl (cI, 60, .inl fpl)), (f2, .inl (cI, 60, .inl fmk)), (f8, .inl (cI, 30, .inl fca))]) (hS : va_S A s.heap H locs) (hm5 : pfc - i < n5), W p l e (headSpec (Cond.code y_Qu_makersOf prog_6_method_9_code 7 (some .long) :: wsA) { frames := 1, cells := 0, slots := 0, locals := 22 }).room s m ([.ref q0, .int (nI x), .int y] : List Value).toArray below meth c H locs 0 0 Q (F0 m 5 ls []) := by
    clear hl hP hD hS
    intro n5
    induction n5 with
    | zero => intro v i hv hi H locs ls hl hP hD hS hm; exact absurd hm (Nat.not_lt_zero _)
    | succ n5 hloop1_ih =>
      intro v i hv hi H locs ls hl hP hD hS hm5
      refine lv_iload hx hb d_Qu_makersOf_5 (lv_at hl 4 rfl) ?_
      refine lv_aload_n hx hb d_Qu_makersOf_7 rfl (lv_at hl 0 rfl) ?_
      refine va_get (D := (dC, dI)) (ci := 6) (v := .ref f0) (C := "NetUnfolder$Question") (T := T_Qu) (N := 6) hx hb ht in_Qu hown hK hP 0 rfl rfl 1 (by decide) (ht _ wd_2_18) (fun _ h9 => h9) rfl d_Qu_makersOf_8 ?_
      refine va_get (D := (dC, dI)) (ci := 2) (v := .int (nI pfc)) (C := "NetUnfolder$Prefix") (T := T_Pf) (N := 14) hx hb ht in_Pf hown hK hP 1 rfl rfl 0 (by decide) (ht _ wd_1_64) (fun _ h9 => h9) rfl d_Qu_makersOf_11 ?_
      refine lv_icmp_ge (tgt := 85) hx hb d_Qu_makersOf_14 (by decide) (fun hb2 => ?_) (fun hb2 => ?_)
      · skip
        replace hb2 := cv_le (a := pfc) (b := i) (by omega) (by omega) hb2
        refine lv_lload_n hx hb d_Qu_makersOf_85 rfl (lv_at hl 3 rfl) ?_
        have hP9 := hP.sub (ws' := [(q0, .inr (6, [.ref n0, .ref f0, .ref w0, .ref k0, .ref s0, .int (nI qu)])), (f0, .inr (2, [.int (nI pfc), .ref f1, .ref f2, .ref f3, .ref f4, .ref f5, .int (nI pfe), .ref f6, .ref f7, .ref f8, .ref f9, .ref f10, .int pfu, .int pfw])), (f1, .inl (cI, 60, .inl fpl)), (f2, .inl (cI, 60, .inl fmk)), (f8, .inl (cI, 30, .inl fca))]) [0, 1, 2, 3, 4] rfl
        have hD9 := hD.sub (ws' := [(q0, .inr (6, [.ref n0, .ref f0, .ref w0, .ref k0, .ref s0, .int (nI qu)])), (f0, .inr (2, [.int (nI pfc), .ref f1, .ref f2, .ref f3, .ref f4, .ref f5, .int (nI pfe), .ref f6, .ref f7, .ref f8, .ref f9, .ref f10, .int pfu, .int pfw])), (f1, .inl (cI, 60, .inl fpl)), (f2, .inl (cI, 60, .inl fmk)), (f8, .inl (cI, 30, .inl fca))]) [0, 1, 2, 3, 4] (by decide) rfl
        subst hQ
        exact W.lret (v := v) hx hb hr (fun t9 ht9 hW => ⟨⟨v, (), rfl, hv, by rw [ht9]; exact hP9, hD9⟩, hS.F ht9⟩) hS.2.2 d_Qu_makersOf_86
      · skip
        replace hb2 := cv_nle (a := pfc) (b := i) (by omega) (by omega) hb2
        refine lv_aload_n hx hb d_Qu_makersOf_17 rfl (lv_at hl 0 rfl) ?_
        refine va_get (D := (dC, dI)) (ci := 6) (v := .ref f0) (C := "NetUnfolder$Question") (T := T_Qu) (N := 6) hx hb ht in_Qu hown hK hP 0 rfl rfl 1 (by decide) (ht _ wd_2_18) (fun _ h9 => h9) rfl d_Qu_makersOf_18 ?_
        refine va_get (D := (dC, dI)) (ci := 2) (v := .ref f2) (C := "NetUnfolder$Prefix") (T := T_Pf) (N := 14) hx hb ht in_Pf hown hK hP 1 rfl rfl 2 (by decide) (ht _ wd_1_71) (fun _ h9 => h9) rfl d_Qu_makersOf_21 ?_
        refine lv_iload hx hb d_Qu_makersOf_24 (lv_at hl 4 rfl) ?_
        refine na_iald (k := i) hx hb hK hP 3 0 rfl rfl (by omega) (by decide) d_Qu_makersOf_26 ?_
        refine lv_istore (lv' := [(6, .int (fmk i)), (0, .ref q0), (1, .int (nI x)), (2, .int y), (3, .long v), (5, .int (nI i))]) hx hb d_Qu_makersOf_27 hl (by decide) rfl (fun ls hln => ?_)
        replace hl : lv_has ls 7 [(6, .int (fmk i)), (0, .ref q0), (1, .int (nI x)), (2, .int y), (3, .long v), (5, .int (nI i))] := hln
        clear hln
        refine lv_aload_n hx hb d_Qu_makersOf_29 rfl (lv_at hl 1 rfl) ?_
        refine va_get (D := (dC, dI)) (ci := 6) (v := .ref f0) (C := "NetUnfolder$Question") (T := T_Qu) (N := 6) hx hb ht in_Qu hown hK hP 0 rfl rfl 1 (by decide) (ht _ wd_2_18) (fun _ h9 => h9) rfl d_Qu_makersOf_30 ?_
        refine va_get (D := (dC, dI)) (ci := 2) (v := .ref f1) (C := "NetUnfolder$Prefix") (T := T_Pf) (N := 14) hx hb ht in_Pf hown hK hP 1 rfl rfl 1 (by decide) (ht _ wd_1_68) (fun _ h9 => h9) rfl d_Qu_makersOf_33 ?_
        refine lv_iload hx hb d_Qu_makersOf_36 (lv_at hl 5 rfl) ?_
        refine na_iald (k := i) hx hb hK hP 2 0 rfl rfl (by omega) (by decide) d_Qu_makersOf_38 ?_
        refine lv_iload_n hx hb d_Qu_makersOf_39 rfl (lv_at hl 2 rfl) ?_
        refine lv_icmp_ne (tgt := 79) hx hb d_Qu_makersOf_40 (by decide) (fun hb3 => ?_) (fun hb3 => ?_)
        · skip
          refine lv_iinc (k := 5) (v := nI (i + 1)) (lv' := [(5, .int (nI (i + 1))), (6, .int (fmk i)), (0, .ref q0), (1, .int (nI x)), (2, .int y), (3, .long v)]) hx hb d_Qu_makersOf_79 hl rfl (nI_1 _) (by decide) rfl (fun ls hln => ?_)
          replace hl : lv_has ls 7 [(5, .int (nI (i + 1))), (6, .int (fmk i)), (0, .ref q0), (1, .int (nI x)), (2, .int y), (3, .long v)] := hln
          clear hln
          refine lv_goto (tgt := 5) hx hb d_Qu_makersOf_82 (by decide) ?_
          exact hloop1_ih v (i + 1) (by repeat (first | with_reducible assumption | with_reducible exact M38.zero | with_reducible exact M38.all | with_reducible apply M38.or | (with_reducible apply M38.bit; omega) | (with_reducible apply M38.andI; omega) | (with_reducible apply M38.ofI; omega))) (by first | assumption | omega | trivial | exact AllLt.zero | exact AllN.zero | exact AllM.zero | exact Or.inl rfl | exact Or.inr rfl) _ _ ls (lv_sub hl [2, 3, 4, 5, 0] rfl) (hP.sub [0, 1, 2, 3, 4] rfl) (hD.sub [0, 1, 2, 3, 4] (by decide) rfl) hS (by omega)
        · skip
          refine lv_iload hx hb d_Qu_makersOf_43 (lv_at hl 0 rfl) ?_
          refine lv_iconst (v := (-1)) hx hb d_Qu_makersOf_45 (by decide) ?_
          refine lv_icmp_eq (tgt := 79) hx hb d_Qu_makersOf_46 (by decide) (fun hb4 => ?_) (fun hb4 => ?_)
          · skip
            refine lv_iinc (k := 5) (v := nI (i + 1)) (lv' := [(5, .int (nI (i + 1))), (6, .int (fmk i)), (0, .ref q0), (1, .int (nI x)), (2, .int y), (3, .long v)]) hx hb d_Qu_makersOf_79 hl rfl (nI_1 _) (by decide) rfl (fun ls hln => ?_)
            replace hl : lv_has ls 7 [(5, .int (nI (i + 1))), (6, .int (fmk i)), (0, .ref q0), (1, .int (nI x)), (2, .int y), (3, .long v)] := hln
            clear hln
            refine lv_goto (tgt := 5) hx hb d_Qu_makersOf_82 (by decide) ?_
            exact hloop1_ih v (i + 1) (by repeat (first | with_reducible assumption | with_reducible exact M38.zero | with_reducible exact M38.all | with_reducible apply M38.or | (with_reducible apply M38.bit; omega) | (with_reducible apply M38.andI; omega) | (with_reducible apply M38.ofI; omega))) (by first | assumption | omega | trivial | exact AllLt.zero | exact AllN.zero | exact AllM.zero | exact Or.inl rfl | exact Or.inr rfl) _ _ ls (lv_sub hl [2, 3, 4, 5, 0] rfl) (hP.sub [0, 1, 2, 3, 4] rfl) (hD.sub [0, 1, 2, 3, 4] (by decide) rfl) hS (by omega)
          · skip
            refine lv_iload_n hx hb d_Qu_makersOf_49 rfl (lv_at hl 3 rfl) ?_
            refine lv_iconst (v := (-1)) hx hb d_Qu_makersOf_50 (by decide) ?_
            refine lv_icmp_eq (tgt := 72) hx hb d_Qu_makersOf_51 (by decide) (fun hb5 => ?_) (fun hb5 => ?_)
            · skip
              refine lv_lload_n hx hb d_Qu_makersOf_72 rfl (lv_at hl 4 rfl) ?_
              refine lv_lconst (v := 1) hx hb d_Qu_makersOf_73 (by decide) ?_
              refine lv_iload hx hb d_Qu_makersOf_74 (lv_at hl 0 rfl) ?_
              obtain ⟨q6, hq7, eq8⟩ := (hmk i (by omega)).resolve_left hb4
              refine ci_i (y := nI q6) eq8 ?_
              refine lv_lshl (v := 1 <<< (Int32.toInt64 (nI q6) &&& 63)) hx hb d_Qu_makersOf_76 rfl ?_
              refine lv_lor hx hb d_Qu_makersOf_77 ?_
              refine lv_lstore_n (lv' := [(3, .long (v ||| (1 <<< (Int32.toInt64 (nI q6) &&& 63)))), (6, .int (fmk i)), (0, .ref q0), (1, .int (nI x)), (2, .int y), (5, .int (nI i))]) hx hb d_Qu_makersOf_78 rfl hl (by decide) rfl (fun ls hln => ?_)
              replace hl : lv_has ls 7 [(3, .long (v ||| (1 <<< (Int32.toInt64 (nI q6) &&& 63)))), (6, .int (fmk i)), (0, .ref q0), (1, .int (nI x)), (2, .int y), (5, .int (nI i))] := hln
              clear hln
              refine lv_iinc (k := 5) (v := nI (i + 1)) (lv' := [(5, .int (nI (i + 1))), (3, .long (v ||| (1 <<< (Int32.toInt64 (nI q6) &&& 63)))), (6, .int (fmk i)), (0, .ref q0), (1, .int (nI x)), (2, .int y)]) hx hb d_Qu_makersOf_79 hl rfl (nI_1 _) (by decide) rfl (fun ls hln => ?_)
              replace hl : lv_has ls 7 [(5, .int (nI (i + 1))), (3, .long (v ||| (1 <<< (Int32.toInt64 (nI q6) &&& 63)))), (6, .int (fmk i)), (0, .ref q0), (1, .int (nI x)), (2, .int y)] := hln
              clear hln
              refine lv_goto (tgt := 5) hx hb d_Qu_makersOf_82 (by decide) ?_
              exact hloop1_ih (v ||| (1 <<< (Int32.toInt64 (nI q6) &&& 63))) (i + 1) (by repeat (first | with_reducible assumption | with_reducible exact M38.zero | with_reducible exact M38.all | with_reducible apply M38.or | (with_reducible apply M38.bit; omega) | (with_reducible apply M38.andI; omega) | (with_reducible apply M38.ofI; omega))) (by first | assumption | omega | trivial | exact AllLt.zero | exact AllN.zero | exact AllM.zero | exact Or.inl rfl | exact Or.inr rfl) _ _ ls (lv_sub hl [3, 4, 5, 1, 0] rfl) (hP.sub [0, 1, 2, 3, 4] rfl) (hD.sub [0, 1, 2, 3, 4] (by decide) rfl) hS (by omega)
            · skip
              refine lv_aload_n hx hb d_Qu_makersOf_54 rfl (lv_at hl 1 rfl) ?_
              refine va_get (D := (dC, dI)) (ci := 6) (v := .ref f0) (C := "NetUnfolder$Question") (T := T_Qu) (N := 6) hx hb ht in_Qu hown hK hP 0 rfl rfl 1 (by decide) (ht _ wd_2_18) (fun _ h9 => h9) rfl d_Qu_makersOf_55 ?_
              refine va_get (D := (dC, dI)) (ci := 2) (v := .ref f8) (C := "NetUnfolder$Prefix") (T := T_Pf) (N := 14) hx hb ht in_Pf hown hK hP 1 rfl rfl 9 (by decide) (ht _ wd_1_93) (fun _ h9 => h9) rfl d_Qu_makersOf_58 ?_
              refine lv_iload hx hb d_Qu_makersOf_61 (lv_at hl 0 rfl) ?_
              obtain ⟨q9, hq10, eq11⟩ := (hmk i (by omega)).resolve_left hb4
              refine ci_i (y := nI q9) eq11 ?_
              refine na_iald (k := q9) hx hb hK hP 4 0 rfl rfl (by omega) (by decide) d_Qu_makersOf_63 ?_
              refine lv_i2l (v := Int32.toInt64 (fca q9)) hx hb d_Qu_makersOf_64 rfl ?_
              refine lv_iload_n hx hb d_Qu_makersOf_65 rfl (lv_at hl 3 rfl) ?_
              obtain ⟨q12, hq13, eq14⟩ := hy.resolve_left hb5
              refine ci_i (y := nI q12) eq14 ?_
              have hPc : va_P (dC, dI) clA [] _ := pu_P (H := H)
              have hDc : va_D (fun _ => True) [] := pu_D
              have hFc := pu_free hS hA
              refine va_calli (va_runSN (As := [.long (Int32.toInt64 (fca q9)), .int (nI q12)]) (rest := []) ⟨hx, hb, hml, hown, ht⟩ (c_NU_has l dC dI cI cL cZ _ (Int32.toInt64 (fca q9)) q12 (by first | assumption | omega | trivial | exact AllLt.zero | exact AllN.zero | exact AllM.zero | exact Or.inl rfl | exact Or.inr rfl)) ⟨va_cnB 2 ht (goodA wd_2_102) rfl rfl rfl hN.2.2.2.2.2.2.2.1 (ht _ wd_1_1) (by decide +kernel) ⟨Nat.le_of_ble_eq_true rfl, Nat.le_of_ble_eq_true rfl⟩, ht _ wd_2_101, trivial⟩ ⟨fun a U g mk q => by obtain ⟨q0, q1, qP, qK, qD, qN⟩ := q; exact ⟨q0, q1, qP, va_K.moved (u := U) (U := U.calling g mk a) (Vm.Alike.refl U.vm) qK, qD, NwA.same (u := U) rfl qN⟩, fun U hU hW => ⟨rfl, by rw [hU], by rw [hU]; exact hPc, va_K.moved hW.alike hK, hDc.weaken (fun _ _ _ _ => trivial), NwA.warm hW hN⟩⟩ rfl rfl hl.1 rfl (lv_room (Nat.le_of_ble_eq_true rfl)) d_Qu_makersOf_66 ⟨Nat.le_of_ble_eq_true rfl, Nat.le_of_ble_eq_true rfl⟩) hS (fun q _ h => hFc q h) hFc (fun r17 u9 t9 H15 locs ht9 hvm hw16 hB hz1 hk1 hSn => ?_)
              replace hP : va_P (dC, dI) clA [(q0, .inr (6, [.ref n0, .ref f0, .ref w0, .ref k0, .ref s0, .int (nI qu)])), (f0, .inr (2, [.int (nI pfc), .ref f1, .ref f2, .ref f3, .ref f4, .ref f5, .int (nI pfe), .ref f6, .ref f7, .ref f8, .ref f9, .ref f10, .int pfu, .int pfw])), (f1, .inl (cI, 60, .inl fpl)), (f2, .inl (cI, 60, .inl fmk)), (f8, .inl (cI, 30, .inl fca))] H15 := pu_keep hP hk1
              replace hS := hSn
              clear hSn hPc hDc hFc hk1 hz1 ht9 hvm hB
              refine W.cs (cells' := 0) (slots' := 0) rfl rfl ?_
              subst hw16
              refine lv_if_eq (tgt := 79) hx hb d_Qu_makersOf_69 (by decide) (fun hb18 => ?_) (fun hb18 => ?_)
              · skip
                refine lv_iinc (k := 5) (v := nI (i + 1)) (lv' := [(5, .int (nI (i + 1))), (6, .int (fmk i)), (0, .ref q0), (1, .int (nI x)), (2, .int y), (3, .long v)]) hx hb d_Qu_makersOf_79 hl rfl (nI_1 _) (by decide) rfl (fun ls hln => ?_)
                replace hl : lv_has ls 7 [(5, .int (nI (i + 1))), (6, .int (fmk i)), (0, .ref q0), (1, .int (nI x)), (2, .int y), (3, .long v)] := hln
                clear hln
                refine lv_goto (tgt := 5) hx hb d_Qu_makersOf_82 (by decide) ?_
                exact hloop1_ih v (i + 1) (by repeat (first | with_reducible assumption | with_reducible exact M38.zero | with_reducible exact M38.all | with_reducible apply M38.or | (with_reducible apply M38.bit; omega) | (with_reducible apply M38.andI; omega) | (with_reducible apply M38.ofI; omega))) (by first | assumption | omega | trivial | exact AllLt.zero | exact AllN.zero | exact AllM.zero | exact Or.inl rfl | exact Or.inr rfl) _ _ ls (lv_sub hl [2, 3, 4, 5, 0] rfl) (hP.sub [0, 1, 2, 3, 4] rfl) (hD.sub [0, 1, 2, 3, 4] (by decide) rfl) hS (by omega)
              · skip
                refine lv_lload_n hx hb d_Qu_makersOf_72 rfl (lv_at hl 4 rfl) ?_
                refine lv_lconst (v := 1) hx hb d_Qu_makersOf_73 (by decide) ?_
                refine lv_iload hx hb d_Qu_makersOf_74 (lv_at hl 0 rfl) ?_
                obtain ⟨q19, hq20, eq21⟩ := (hmk i (by omega)).resolve_left hb4
                refine ci_i (y := nI q19) eq21 ?_
                refine lv_lshl (v := 1 <<< (Int32.toInt64 (nI q19) &&& 63)) hx hb d_Qu_makersOf_76 rfl ?_
                refine lv_lor hx hb d_Qu_makersOf_77 ?_
                refine lv_lstore_n (lv' := [(3, .long (v ||| (1 <<< (Int32.toInt64 (nI q19) &&& 63)))), (6, .int (fmk i)), (0, .ref q0), (1, .int (nI x)), (2, .int y), (5, .int (nI i))]) hx hb d_Qu_makersOf_78 rfl hl (by decide) rfl (fun ls hln => ?_)
                replace hl : lv_has ls 7 [(3, .long (v ||| (1 <<< (Int32.toInt64 (nI q19) &&& 63)))), (6, .int (fmk i)), (0, .ref q0), (1, .int (nI x)), (2, .int y), (5, .int (nI i))] := hln
                clear hln
                refine lv_iinc (k := 5) (v := nI (i + 1)) (lv' := [(5, .int (nI (i + 1))), (3, .long (v ||| (1 <<< (Int32.toInt64 (nI q19) &&& 63)))), (6, .int (fmk i)), (0, .ref q0), (1, .int (nI x)), (2, .int y)]) hx hb d_Qu_makersOf_79 hl rfl (nI_1 _) (by decide) rfl (fun ls hln => ?_)
                replace hl : lv_has ls 7 [(5, .int (nI (i + 1))), (3, .long (v ||| (1 <<< (Int32.toInt64 (nI q19) &&& 63)))), (6, .int (fmk i)), (0, .ref q0), (1, .int (nI x)), (2, .int y)] := hln
                clear hln
                refine lv_goto (tgt := 5) hx hb d_Qu_makersOf_82 (by decide) ?_
                exact hloop1_ih (v ||| (1 <<< (Int32.toInt64 (nI q19) &&& 63))) (i + 1) (by repeat (first | with_reducible assumption | with_reducible exact M38.zero | with_reducible exact M38.all | with_reducible apply M38.or | (with_reducible apply M38.bit; omega) | (with_reducible apply M38.andI; omega) | (with_reducible apply M38.ofI; omega))) (by first | assumption | omega | trivial | exact AllLt.zero | exact AllN.zero | exact AllM.zero | exact Or.inl rfl | exact Or.inr rfl) _ _ ls (lv_sub hl [3, 4, 5, 1, 0] rfl) (hP.sub [0, 1, 2, 3, 4] rfl) (hD.sub [0, 1, 2, 3, 4] (by decide) rfl) hS (by omega)
  exact hloop1 ((pfc - 0) + 1) 0 0 (by repeat (first | with_reducible assumption | with_reducible exact M38.zero | with_reducible exact M38.all | with_reducible apply M38.or | (with_reducible apply M38.bit; omega) | (with_reducible apply M38.andI; omega) | (with_reducible apply M38.ofI; omega))) (by first | assumption | omega | trivial | exact AllLt.zero | exact AllN.zero | exact AllM.zero | exact Or.inl rfl | exact Or.inr rfl) _ _ ls (lv_sub hl [2, 3, 4, 1, 0] rfl) hP hD hS (Nat.lt_succ_self _)

set_option maxHeartbeats 4000000 in
set_option maxRecDepth 100000 in
theorem c_Qu_describeEvent (l : Launch) (dC : Nat → ClassId) (dI : Nat → Nat → Nat) (cI cL cZ : ClassId) (sz : Nat) (q0 : Nat) (s0 : Nat) (qu : Nat) (n0 : Nat) (w0 : Nat) (f0 : Nat) (f1 : Nat) (f2 : Nat) (f3 : Nat) (f4 : Nat) (f5 : Nat) (f6 : Nat) (f7 : Nat) (f8 : Nat) (f9 : Nat) (f10 : Nat) (pfc : Nat) (pfe : Nat) (pfu : Int32) (pfw : Int32) (ftn : Nat → Int64) (fca : Nat → Int32) (k0 : Nat) (k1 : Nat) (k2 : Nat) (kg : Nat) (ky : Nat → Int64) (kn : Nat → Int64) (k : Nat) (hkg : kg ≤ 751) (hky : AllM ky 815) (hkn : AllM kn 815) (hk : k < 30) : Met l y_Qu_describeEvent (Cond.code y_Qu_describeEvent prog_6_method_7_code 3 none :: wsA) { frames := 1, cells := 0, slots := 0, locals := 24 } (va_Pc [.ref q0, .int (nI k)] (fun U => U.heap.size = sz ∧ va_P (dC, dI) clA [(q0, .inr (6, [.ref n0, .ref f0, .ref w0, .ref k0, .ref s0, .int (nI qu)])), (f0, .inr (2, [.int (nI pfc), .ref f1, .ref f2, .ref f3, .ref f4, .ref f5, .int (nI pfe), .ref f6, .ref f7, .ref f8, .ref f9, .ref f10, .int pfu, .int pfw])), (f7, .inl (cL, 30, .inr (.inl ftn))), (f8, .inl (cI, 30, .inl fca)), (k0, .inr (7, [.ref k1, .ref k2, .int (nI kg), .int (nI kg)])), (k1, .inl (cL, 815, .inr (.inl ky))), (k2, .inl (cL, 815, .inr (.inl kn)))] U.heap ∧ va_K (dC, dI) clA [(cI, .int), (cL, .long), (cZ, .boolean)] U ∧ va_D (fun _ => True) [(q0, .inr (6, [.ref n0, .ref f0, .ref w0, .ref k0, .ref s0, .int (nI qu)])), (f0, .inr (2, [.int (nI pfc), .ref f1, .ref f2, .ref f3, .ref f4, .ref f5, .int (nI pfe), .ref f6, .ref f7, .ref f8, .ref f9, .ref f10, .int pfu, .int pfw])), (f7, .inl (cL, 30, .inr (.inl ftn))), (f8, .inl (cI, 30, .inl fca)), (k0, .inr (7, [.ref k1, .ref k2, .int (nI kg), .int (nI kg)])), (k1, .inl (cL, 815, .inr (.inl ky))), (k2, .inl (cL, 815, .inr (.inl kn)))] ∧ NwA U)) (va_Qv (fun _ : Unit => True) (fun _ t => ∃ (kg1 : Nat), ∃ (ky1 : Nat → Int64), ∃ (kn1 : Nat → Int64), (kg1 ≤ 751) ∧ (AllM ky1 815) ∧ (AllM kn1 815) ∧ va_P (dC, dI) clA [(q0, .inr (6, [.ref n0, .ref f0, .ref w0, .ref k0, .ref s0, .int (nI qu)])), (f0, .inr (2, [.int (nI pfc), .ref f1, .ref f2, .ref f3, .ref f4, .ref f5, .int (nI pfe), .ref f6, .ref f7, .ref f8, .ref f9, .ref f10, .int pfu, .int pfw])), (f7, .inl (cL, 30, .inr (.inl ftn))), (f8, .inl (cI, 30, .inl fca)), (k0, .inr (7, [.ref k1, .ref k2, .int (nI kg1), .int (nI kg1)])), (k1, .inl (cL, 815, .inr (.inl ky1))), (k2, .inl (cL, 815, .inr (.inl kn1)))] t.heap ∧ va_D (va_A [(q0, .inr (6, [.ref n0, .ref f0, .ref w0, .ref k0, .ref s0, .int (nI qu)])), (f0, .inr (2, [.int (nI pfc), .ref f1, .ref f2, .ref f3, .ref f4, .ref f5, .int (nI pfe), .ref f6, .ref f7, .ref f8, .ref f9, .ref f10, .int pfu, .int pfw])), (f7, .inl (cL, 30, .inr (.inl ftn))), (f8, .inl (cI, 30, .inl fca)), (k0, .inr (7, [.ref k1, .ref k2, .int (nI kg), .int (nI kg)])), (k1, .inl (cL, 815, .inr (.inl ky))), (k2, .inl (cL, 815, .inr (.inl kn)))] sz) [(q0, .inr (6, [.ref n0, .ref f0, .ref w0, .ref k0, .ref s0, .int (nI qu)])), (f0, .inr (2, [.int (nI pfc), .ref f1, .ref f2, .ref f3, .ref f4, .ref f5, .int (nI pfe), .ref f6, .ref f7, .ref f8, .ref f9, .ref f10, .int pfu, .int pfw])), (f7, .inl (cL, 30, .inr (.inl ftn))), (f8, .inl (cI, 30, .inl fca)), (k0, .inr (7, [.ref k1, .ref k2, .int (nI kg1), .int (nI kg1)])), (k1, .inl (cL, 815, .inr (.inl ky1))), (k2, .inl (cL, 815, .inr (.inl kn1)))]) (va_A [(q0, .inr (6, [.ref n0, .ref f0, .ref w0, .ref k0, .ref s0, .int (nI qu)])), (f0, .inr (2, [.int (nI pfc), .ref f1, .ref f2, .ref f3, .ref f4, .ref f5, .int (nI pfe), .ref f6, .ref f7, .ref f8, .ref f9, .ref f10, .int pfu, .int pfw])), (f7, .inl (cL, 30, .inr (.inl ftn))), (f8, .inl (cI, 30, .inl fca)), (k0, .inr (7, [.ref k1, .ref k2, .int (nI kg), .int (nI kg)])), (k1, .inl (cL, 815, .inr (.inl ky))), (k2, .inl (cL, 815, .inr (.inl kn)))] sz)) 0 0 (va_A [(q0, .inr (6, [.ref n0, .ref f0, .ref w0, .ref k0, .ref s0, .int (nI qu)])), (f0, .inr (2, [.int (nI pfc), .ref f1, .ref f2, .ref f3, .ref f4, .ref f5, .int (nI pfe), .ref f6, .ref f7, .ref f8, .ref f9, .ref f10, .int pfu, .int pfw])), (f7, .inl (cL, 30, .inr (.inl ftn))), (f8, .inl (cI, 30, .inl fca)), (k0, .inr (7, [.ref k1, .ref k2, .int (nI kg), .int (nI kg)])), (k1, .inl (cL, 815, .inr (.inl ky))), (k2, .inl (cL, 815, .inr (.inl kn)))] sz) := by
  refine Met.ofW (cc := prog_6_method_7_code) (maxL := 3) (ret := none) (by decide) rfl ?_
  intro p e s m args below meth c s₁ B hml hv
  obtain ⟨rfl, hsz, hP, hK, hD0, hN⟩ := hv
  have hx := B.exec
  have hb := B.bytes
  have hr := B.returns
  have ht : ∀ w ∈ wsA, w.before _ s = true := fun w h => atoms_spec (ws := (Cond.code y_Qu_describeEvent prog_6_method_7_code 3 none :: wsA)) B.pre w (List.mem_cons_of_mem _ h)
  have hown : s.vm.findClass "NetUnfolder$Question" = some m.cls := findClass_of_methodNamed B.named
  have hlocks := B.notSynchronized
  subst hsz
  have hD := hD0.self (sz := s.heap.size)
  generalize hAe : va_A [(q0, .inr (6, [.ref n0, .ref f0, .ref w0, .ref k0, .ref s0, .int (nI qu)])), (f0, .inr (2, [.int (nI pfc), .ref f1, .ref f2, .ref f3, .ref f4, .ref f5, .int (nI pfe), .ref f6, .ref f7, .ref f8, .ref f9, .ref f10, .int pfu, .int pfw])), (f7, .inl (cL, 30, .inr (.inl ftn))), (f8, .inl (cI, 30, .inl fca)), (k0, .inr (7, [.ref k1, .ref k2, .int (nI kg), .int (nI kg)])), (k1, .inl (cL, 815, .inr (.inl ky))), (k2, .inl (cL, 815, .inr (.inl kn)))] s.heap.size = A at hD ⊢
  have hA : ∀ q : Nat, s.heap.size ≤ q → A q := fun q h => by rw [← hAe]; exact Or.inr h
  have hS : va_S A s.heap s.heap [] := va_S.rf
  have hl := lv_entry ([.ref q0, .int (nI k)]) (n := 3) (Nat.le_of_ble_eq_true rfl)
  rw [lg_entry_eq]
  generalize (lg_sl ([.ref q0, .int (nI k)]) ++ List.replicate (3 - (lg_sl ([.ref q0, .int (nI k)])).length) Slot.unset).toArray = ls at hl ⊢
  replace hl : lv_has ls 3 [(0, .ref q0), (1, .int (nI k))] := hl
  refine W_Q (fun Q hQ => ?_)
  refine lv_iconst (v := 0) hx hb d_Qu_describeEvent_0 (by decide) ?_
  refine lv_istore_n (lv' := [(2, .int 0), (0, .ref q0), (1, .int (nI k))]) hx hb d_Qu_describeEvent_1 rfl hl (by decide) rfl (fun ls hln => ?_)
  replace hl : lv_has ls 3 [(2, .int 0), (0, .ref q0), (1, .int (nI k))] := hln
  clear hln
  have hloop1 : ∀ (n2 : Nat) (i : Nat) (kg2 : Nat) (ky2 : Nat → Int64) (kn2 : Nat → Int64) (hi : i ≤ k) (hkg2 : kg2 ≤ 751) (hky2 : AllM ky2 815) (hkn2 : AllM kn2 815) (H : Heap) (locs : List Loc) (ls : Array Slot) (hl : lv_has ls 3 [(0, .ref q0), (1, .int (nI k)), (2, .int (nI i))]) (hP : va_P (dC, dI) clA [(q0, .inr (6, [.ref n0, .ref f0, .ref w0, .ref k0, .ref s0, .int (nI qu)])), (f0, .inr (2, [.int (nI pfc), .ref f1, .ref f2, .ref f3, .ref f4, .ref f5, .int (nI pfe), .ref f6, .ref f7, .ref f8, .ref f9, .ref f10, .int pfu, .int pfw])), (f7, .inl (cL, 30, .inr (.inl ftn))), (f8, .inl (cI, 30, .inl fca)), (k0, .inr (7, [.ref k1, .ref k2, .int (nI kg2), .int (nI kg2)])), (k1, .inl (cL, 815, .inr (.inl ky2))), (k2, .inl (cL, 815, .inr (.inl kn2)))] H) (hD : va_D A [(q0, .inr (6, [.ref n0, .ref f0, .ref w0, .ref k0, .ref s0, .int (nI qu)])), (f0, .inr (2, [.int (nI pfc), .ref f1, .ref f2, .ref f3, .ref f4, .ref f5, .int (nI pfe), .ref f6, .ref f7, .ref f8, .ref f9, .ref f10, .int pfu, .int pfw])), (f7, .inl (cL, 30, .inr (.inl ftn))), (f8, .inl (cI, 30, .inl fca)), (k0, .inr (7, [.ref k1, .ref k2, .int (nI kg2), .int (nI kg2)])), (k1, .inl (cL, 815, .inr (.inl ky2))), (k2, .inl (cL, 815, .inr (.inl kn2)))]) (hS : va_S A s.heap H locs) (hm2 : k - i < n2), W p l e (headSpec (Cond.code y_Qu_describeEvent prog_6_method_7_code 3 none :: wsA) { frames := 1, cells := 0, slots := 0, locals := 24 }).room s m ([.ref q0, .int (nI k)] : List Value).toArray below meth c H locs 0 0 Q (F0 m 2 ls []) := by
    clear hl hP hD hS
    intro n2
    induction n2 with
    | zero => intro i kg2 ky2 kn2 hi hkg2 hky2 hkn2 H locs ls hl hP hD hS hm; exact absurd hm (Nat.not_lt_zero _)
    | succ n2 hloop1_ih =>
      intro i kg2 ky2 kn2 hi hkg2 hky2 hkn2 H locs ls hl hP hD hS hm2
      refine lv_iload_n hx hb d_Qu_describeEvent_2 rfl (lv_at hl 2 rfl) ?_
      refine lv_iload_n hx hb d_Qu_describeEvent_3 rfl (lv_at hl 1 rfl) ?_
      refine lv_icmp_ge (tgt := 97) hx hb d_Qu_describeEvent_4 (by decide) (fun hb2 => ?_) (fun hb2 => ?_)
      · skip
        replace hb2 := cv_le (a := k) (b := i) (by omega) (by omega) hb2
        have hP9 := hP.sub (ws' := [(q0, .inr (6, [.ref n0, .ref f0, .ref w0, .ref k0, .ref s0, .int (nI qu)])), (f0, .inr (2, [.int (nI pfc), .ref f1, .ref f2, .ref f3, .ref f4, .ref f5, .int (nI pfe), .ref f6, .ref f7, .ref f8, .ref f9, .ref f10, .int pfu, .int pfw])), (f7, .inl (cL, 30, .inr (.inl ftn))), (f8, .inl (cI, 30, .inl fca)), (k0, .inr (7, [.ref k1, .ref k2, .int (nI kg2), .int (nI kg2)])), (k1, .inl (cL, 815, .inr (.inl ky2))), (k2, .inl (cL, 815, .inr (.inl kn2)))]) [0, 1, 2, 3, 4, 5, 6] rfl
        have hD9 := hD.sub (ws' := [(q0, .inr (6, [.ref n0, .ref f0, .ref w0, .ref k0, .ref s0, .int (nI qu)])), (f0, .inr (2, [.int (nI pfc), .ref f1, .ref f2, .ref f3, .ref f4, .ref f5, .int (nI pfe), .ref f6, .ref f7, .ref f8, .ref f9, .ref f10, .int pfu, .int pfw])), (f7, .inl (cL, 30, .inr (.inl ftn))), (f8, .inl (cI, 30, .inl fca)), (k0, .inr (7, [.ref k1, .ref k2, .int (nI kg2), .int (nI kg2)])), (k1, .inl (cL, 815, .inr (.inl ky2))), (k2, .inl (cL, 815, .inr (.inl kn2)))]) [0, 1, 2, 3, 4, 5, 6] (by decide) rfl
        subst hQ
        exact W.vret hx hb hr (fun t9 ht9 hW => ⟨⟨(), rfl, trivial, kg2, ky2, kn2, (by first | assumption | omega | trivial | exact AllLt.zero | exact AllN.zero | exact AllM.zero | exact Or.inl rfl | exact Or.inr rfl), (by first | assumption | omega | trivial | exact AllLt.zero | exact AllN.zero | exact AllM.zero | exact Or.inl rfl | exact Or.inr rfl), (by first | assumption | omega | trivial | exact AllLt.zero | exact AllN.zero | exact AllM.zero | exact Or.inl rfl | exact Or.inr rfl), by rw [ht9]; exact hP9, hD9⟩, hS.F ht9⟩) hS.2.2 d_Qu_describeEvent_97
      · skip
        replace hb2 := cv_nle (a := k) (b := i) (by omega) (by omega) hb2
        refine lv_aload_n hx hb d_Qu_describeEvent_7 rfl (lv_at hl 0 rfl) ?_
        refine va_get (D := (dC, dI)) (ci := 6) (v := .ref f0) (C := "NetUnfolder$Question") (T := T_Qu) (N := 6) hx hb ht in_Qu hown hK hP 0 rfl rfl 1 (by decide) (ht _ wd_2_18) (fun _ h9 => h9) rfl d_Qu_describeEvent_8 ?_
        refine va_get (D := (dC, dI)) (ci := 2) (v := .ref f8) (C := "NetUnfolder$Prefix") (T := T_Pf) (N := 14) hx hb ht in_Pf hown hK hP 1 rfl rfl 9 (by decide) (ht _ wd_1_93) (fun _ h9 => h9) rfl d_Qu_describeEvent_11 ?_
        refine lv_iload_n hx hb d_Qu_describeEvent_14 rfl (lv_at hl 1 rfl) ?_
        refine na_iald (k := k) hx hb hK hP 3 0 rfl rfl (by omega) (by decide) d_Qu_describeEvent_15 ?_
        refine lv_i2l (v := Int32.toInt64 (fca k)) hx hb d_Qu_describeEvent_16 rfl ?_
        refine lv_iload_n hx hb d_Qu_describeEvent_17 rfl (lv_at hl 2 rfl) ?_
        have hPc : va_P (dC, dI) clA [] _ := pu_P (H := H)
        have hDc : va_D (fun _ => True) [] := pu_D
        have hFc := pu_free hS hA
        refine va_calli (va_runSN (As := [.long (Int32.toInt64 (fca k)), .int (nI i)]) (rest := []) ⟨hx, hb, hml, hown, ht⟩ (c_NU_has l dC dI cI cL cZ _ (Int32.toInt64 (fca k)) i (by first | assumption | omega | trivial | exact AllLt.zero | exact AllN.zero | exact AllM.zero | exact Or.inl rfl | exact Or.inr rfl)) ⟨va_cnB 2 ht (goodA wd_2_102) rfl rfl rfl hN.2.2.2.2.2.2.2.1 (ht _ wd_1_1) (by decide +kernel) ⟨Nat.le_of_ble_eq_true rfl, Nat.le_of_ble_eq_true rfl⟩, ht _ wd_2_101, trivial⟩ ⟨fun a U g mk q => by obtain ⟨q0, q1, qP, qK, qD, qN⟩ := q; exact ⟨q0, q1, qP, va_K.moved (u := U) (U := U.calling g mk a) (Vm.Alike.refl U.vm) qK, qD, NwA.same (u := U) rfl qN⟩, fun U hU hW => ⟨rfl, by rw [hU], by rw [hU]; exact hPc, va_K.moved hW.alike hK, hDc.weaken (fun _ _ _ _ => trivial), NwA.warm hW hN⟩⟩ rfl rfl hl.1 rfl (lv_room (Nat.le_of_ble_eq_true rfl)) d_Qu_describeEvent_18 ⟨Nat.le_of_ble_eq_true rfl, Nat.le_of_ble_eq_true rfl⟩) hS (fun q _ h => hFc q h) hFc (fun r5 u9 t9 H3 locs ht9 hvm hw4 hB hz1 hk1 hSn => ?_)
        replace hP : va_P (dC, dI) clA [(q0, .inr (6, [.ref n0, .ref f0, .ref w0, .ref k0, .ref s0, .int (nI qu)])), (f0, .inr (2, [.int (nI pfc), .ref f1, .ref f2, .ref f3, .ref f4, .ref f5, .int (nI pfe), .ref f6, .ref f7, .ref f8, .ref f9, .ref f10, .int pfu, .int pfw])), (f7, .inl (cL, 30, .inr (.inl ftn))), (f8, .inl (cI, 30, .inl fca)), (k0, .inr (7, [.ref k1, .ref k2, .int (nI kg2), .int (nI kg2)])), (k1, .inl (cL, 815, .inr (.inl ky2))), (k2, .inl (cL, 815, .inr (.inl kn2)))] H3 := pu_keep hP hk1
        replace hS := hSn
        clear hSn hPc hDc hFc hk1 hz1 ht9 hvm hB
        refine W.cs (cells' := 0) (slots' := 0) rfl rfl ?_
        subst hw4
        refine lv_if_eq (tgt := 40) hx hb d_Qu_describeEvent_21 (by decide) (fun hb6 => ?_) (fun hb6 => ?_)
        · skip
          refine lv_aload_n hx hb d_Qu_describeEvent_40 rfl (lv_at hl 0 rfl) ?_
          refine va_get (D := (dC, dI)) (ci := 6) (v := .int (nI qu)) (C := "NetUnfolder$Question") (T := T_Qu) (N := 6) hx hb ht in_Qu hown hK hP 0 rfl rfl 5 (by decide) (ht _ wd_2_22) (fun _ h9 => h9) rfl d_Qu_describeEvent_41 ?_
          refine lv_i2l (v := Int32.toInt64 (nI qu)) hx hb d_Qu_describeEvent_44 rfl ?_
          refine lv_iload_n hx hb d_Qu_describeEvent_45 rfl (lv_at hl 2 rfl) ?_
          have hPc : va_P (dC, dI) clA [] _ := pu_P (H := H3)
          have hDc : va_D (fun _ => True) [] := pu_D
          have hFc := pu_free hS hA
          refine va_calli (va_runSN (As := [.long (Int32.toInt64 (nI qu)), .int (nI i)]) (rest := []) ⟨hx, hb, hml, hown, ht⟩ (c_NU_has l dC dI cI cL cZ _ (Int32.toInt64 (nI qu)) i (by first | assumption | omega | trivial | exact AllLt.zero | exact AllN.zero | exact AllM.zero | exact Or.inl rfl | exact Or.inr rfl)) ⟨va_cnB 2 ht (goodA wd_2_102) rfl rfl rfl hN.2.2.2.2.2.2.2.1 (ht _ wd_1_1) (by decide +kernel) ⟨Nat.le_of_ble_eq_true rfl, Nat.le_of_ble_eq_true rfl⟩, ht _ wd_2_101, trivial⟩ ⟨fun a U g mk q => by obtain ⟨q0, q1, qP, qK, qD, qN⟩ := q; exact ⟨q0, q1, qP, va_K.moved (u := U) (U := U.calling g mk a) (Vm.Alike.refl U.vm) qK, qD, NwA.same (u := U) rfl qN⟩, fun U hU hW => ⟨rfl, by rw [hU], by rw [hU]; exact hPc, va_K.moved hW.alike hK, hDc.weaken (fun _ _ _ _ => trivial), NwA.warm hW hN⟩⟩ rfl rfl hl.1 rfl (lv_room (Nat.le_of_ble_eq_true rfl)) d_Qu_describeEvent_46 ⟨Nat.le_of_ble_eq_true rfl, Nat.le_of_ble_eq_true rfl⟩) hS (fun q _ h => hFc q h) hFc (fun r9 u9 t9 H7 locs ht9 hvm hw8 hB hz1 hk1 hSn => ?_)
          replace hP : va_P (dC, dI) clA [(q0, .inr (6, [.ref n0, .ref f0, .ref w0, .ref k0, .ref s0, .int (nI qu)])), (f0, .inr (2, [.int (nI pfc), .ref f1, .ref f2, .ref f3, .ref f4, .ref f5, .int (nI pfe), .ref f6, .ref f7, .ref f8, .ref f9, .ref f10, .int pfu, .int pfw])), (f7, .inl (cL, 30, .inr (.inl ftn))), (f8, .inl (cI, 30, .inl fca)), (k0, .inr (7, [.ref k1, .ref k2, .int (nI kg2), .int (nI kg2)])), (k1, .inl (cL, 815, .inr (.inl ky2))), (k2, .inl (cL, 815, .inr (.inl kn2)))] H7 := pu_keep hP hk1
          replace hS := hSn
          clear hSn hPc hDc hFc hk1 hz1 ht9 hvm hB
          refine W.cs (cells' := 0) (slots' := 0) rfl rfl ?_
          subst hw8
          refine lv_if_eq (tgt := 91) hx hb d_Qu_describeEvent_49 (by decide) (fun hb10 => ?_) (fun hb10 => ?_)
          · skip
            refine lv_iinc (k := 2) (v := nI (i + 1)) (lv' := [(2, .int (nI (i + 1))), (0, .ref q0), (1, .int (nI k))]) hx hb d_Qu_describeEvent_91 hl rfl (nI_1 _) (by decide) rfl (fun ls hln => ?_)
            replace hl : lv_has ls 3 [(2, .int (nI (i + 1))), (0, .ref q0), (1, .int (nI k))] := hln
            clear hln
            refine lv_goto (tgt := 2) hx hb d_Qu_describeEvent_94 (by decide) ?_
            exact hloop1_ih (i + 1) kg2 ky2 kn2 (by first | assumption | omega | trivial | exact AllLt.zero | exact AllN.zero | exact AllM.zero | exact Or.inl rfl | exact Or.inr rfl) (by first | assumption | omega | trivial | exact AllLt.zero | exact AllN.zero | exact AllM.zero | exact Or.inl rfl | exact Or.inr rfl) (by first | assumption | omega | trivial | exact AllLt.zero | exact AllN.zero | exact AllM.zero | exact Or.inl rfl | exact Or.inr rfl) (by first | assumption | omega | trivial | exact AllLt.zero | exact AllN.zero | exact AllM.zero | exact Or.inl rfl | exact Or.inr rfl) _ _ ls (lv_sub hl [1, 2, 0] rfl) (hP.sub [0, 1, 2, 3, 4, 5, 6] rfl) (hD.sub [0, 1, 2, 3, 4, 5, 6] (by decide) rfl) hS (by omega)
          · skip
            refine lv_aload_n hx hb d_Qu_describeEvent_52 rfl (lv_at hl 0 rfl) ?_
            refine va_get (D := (dC, dI)) (ci := 6) (v := .ref f0) (C := "NetUnfolder$Question") (T := T_Qu) (N := 6) hx hb ht in_Qu hown hK hP 0 rfl rfl 1 (by decide) (ht _ wd_2_18) (fun _ h9 => h9) rfl d_Qu_describeEvent_53 ?_
            refine va_get (D := (dC, dI)) (ci := 2) (v := .ref f7) (C := "NetUnfolder$Prefix") (T := T_Pf) (N := 14) hx hb ht in_Pf hown hK hP 1 rfl rfl 8 (by decide) (ht _ wd_1_91) (fun _ h9 => h9) rfl d_Qu_describeEvent_56 ?_
            refine lv_iload_n hx hb d_Qu_describeEvent_59 rfl (lv_at hl 1 rfl) ?_
            refine na_lald (k := k) hx hb hK hP 2 1 rfl rfl (by omega) (by decide) d_Qu_describeEvent_60 ?_
            refine lv_aload_n hx hb d_Qu_describeEvent_61 rfl (lv_at hl 0 rfl) ?_
            refine va_get (D := (dC, dI)) (ci := 6) (v := .ref f0) (C := "NetUnfolder$Question") (T := T_Qu) (N := 6) hx hb ht in_Qu hown hK hP 0 rfl rfl 1 (by decide) (ht _ wd_2_18) (fun _ h9 => h9) rfl d_Qu_describeEvent_62 ?_
            refine va_get (D := (dC, dI)) (ci := 2) (v := .ref f7) (C := "NetUnfolder$Prefix") (T := T_Pf) (N := 14) hx hb ht in_Pf hown hK hP 1 rfl rfl 8 (by decide) (ht _ wd_1_91) (fun _ h9 => h9) rfl d_Qu_describeEvent_65 ?_
            refine lv_iload_n hx hb d_Qu_describeEvent_68 rfl (lv_at hl 2 rfl) ?_
            refine na_lald (k := i) hx hb hK hP 2 1 rfl rfl (by omega) (by decide) d_Qu_describeEvent_69 ?_
            refine lv_land hx hb d_Qu_describeEvent_70 ?_
            refine lv_lconst (v := 0) hx hb d_Qu_describeEvent_71 (by decide) ?_
            refine W.lcmp hx hb d_Qu_describeEvent_72 ?_
            refine lv_if_eq (tgt := 91) hx hb d_Qu_describeEvent_73 (by decide) (fun hb11 => ?_) (fun hb11 => ?_)
            · skip
              refine lv_iinc (k := 2) (v := nI (i + 1)) (lv' := [(2, .int (nI (i + 1))), (0, .ref q0), (1, .int (nI k))]) hx hb d_Qu_describeEvent_91 hl rfl (nI_1 _) (by decide) rfl (fun ls hln => ?_)
              replace hl : lv_has ls 3 [(2, .int (nI (i + 1))), (0, .ref q0), (1, .int (nI k))] := hln
              clear hln
              refine lv_goto (tgt := 2) hx hb d_Qu_describeEvent_94 (by decide) ?_
              exact hloop1_ih (i + 1) kg2 ky2 kn2 (by first | assumption | omega | trivial | exact AllLt.zero | exact AllN.zero | exact AllM.zero | exact Or.inl rfl | exact Or.inr rfl) (by first | assumption | omega | trivial | exact AllLt.zero | exact AllN.zero | exact AllM.zero | exact Or.inl rfl | exact Or.inr rfl) (by first | assumption | omega | trivial | exact AllLt.zero | exact AllN.zero | exact AllM.zero | exact Or.inl rfl | exact Or.inr rfl) (by first | assumption | omega | trivial | exact AllLt.zero | exact AllN.zero | exact AllM.zero | exact Or.inl rfl | exact Or.inr rfl) _ _ ls (lv_sub hl [1, 2, 0] rfl) (hP.sub [0, 1, 2, 3, 4, 5, 6] rfl) (hD.sub [0, 1, 2, 3, 4, 5, 6] (by decide) rfl) hS (by omega)
            · skip
              refine lv_aload_n hx hb d_Qu_describeEvent_76 rfl (lv_at hl 0 rfl) ?_
              refine va_get (D := (dC, dI)) (ci := 6) (v := .ref k0) (C := "NetUnfolder$Question") (T := T_Qu) (N := 6) hx hb ht in_Qu hown hK hP 0 rfl rfl 3 (by decide) (ht _ wd_2_20) (fun _ h9 => h9) rfl d_Qu_describeEvent_77 ?_
              refine lv_lconst (v := 0) hx hb d_Qu_describeEvent_80 (by decide) ?_
              refine lv_lconst (v := 1) hx hb d_Qu_describeEvent_81 (by decide) ?_
              refine lv_iload_n hx hb d_Qu_describeEvent_82 rfl (lv_at hl 1 rfl) ?_
              refine lv_lshl (v := 1 <<< (Int32.toInt64 (nI k) &&& 63)) hx hb d_Qu_describeEvent_83 rfl ?_
              refine lv_lconst (v := 1) hx hb d_Qu_describeEvent_84 (by decide) ?_
              refine lv_iload_n hx hb d_Qu_describeEvent_85 rfl (lv_at hl 2 rfl) ?_
              refine lv_lshl (v := 1 <<< (Int32.toInt64 (nI i) &&& 63)) hx hb d_Qu_describeEvent_86 rfl ?_
              refine lv_lor hx hb d_Qu_describeEvent_87 ?_
              have hPc := hP.sub (ws' := [(k0, .inr (7, [.ref k1, .ref k2, .int (nI kg2), .int (nI kg2)])), (k1, .inl (cL, 815, .inr (.inl ky2))), (k2, .inl (cL, 815, .inr (.inl kn2)))]) [4, 5, 6] rfl
              have hDc := hD.sub (ws' := [(k0, .inr (7, [.ref k1, .ref k2, .int (nI kg2), .int (nI kg2)])), (k1, .inl (cL, 815, .inr (.inl ky2))), (k2, .inl (cL, 815, .inr (.inl kn2)))]) [4, 5, 6] (by decide) rfl
              have hFc := va_free (wc := [(k0, .inr (7, [.ref k1, .ref k2, .int (nI kg2), .int (nI kg2)])), (k1, .inl (cL, 815, .inr (.inl ky2))), (k2, .inl (cL, 815, .inr (.inl kn2)))]) hD hS hA [4, 5, 6] rfl
              refine va_callv (va_runV (C := "NetUnfolder$Clauses") (As := [.long 0, .long ((1 <<< (Int32.toInt64 (nI k) &&& 63)) ||| (1 <<< (Int32.toInt64 (nI i) &&& 63)))]) (rest := []) ⟨hx, hb, hml, hown, ht⟩ (c_Cs_give l dC dI cI cL cZ _ k0 k1 k2 kg2 ky2 kn2 0 ((1 <<< (Int32.toInt64 (nI k) &&& 63)) ||| (1 <<< (Int32.toInt64 (nI i) &&& 63))) (by first | assumption | omega | trivial | exact AllLt.zero | exact AllN.zero | exact AllM.zero | exact Or.inl rfl | exact Or.inr rfl) (by first | assumption | omega | trivial | exact AllLt.zero | exact AllN.zero | exact AllM.zero | exact Or.inl rfl | exact Or.inr rfl) (by first | assumption | omega | trivial | exact AllLt.zero | exact AllN.zero | exact AllM.zero | exact Or.inl rfl | exact Or.inr rfl) (by repeat (first | with_reducible assumption | with_reducible exact M38.zero | with_reducible exact M38.all | with_reducible apply M38.or | (with_reducible apply M38.bit; omega) | (with_reducible apply M38.andI; omega) | (with_reducible apply M38.ofI; omega))) (by repeat (first | with_reducible assumption | with_reducible exact M38.zero | with_reducible exact M38.all | with_reducible apply M38.or | (with_reducible apply M38.bit; omega) | (with_reducible apply M38.andI; omega) | (with_reducible apply M38.ofI; omega)))) (cwV 2 ht (good_V wd_3_125 wd_3_126 wd_3_127 wd_1_8 wd_3_128) rfl rfl rfl (by decide +kernel) ⟨Nat.le_of_ble_eq_true rfl, Nat.le_of_ble_eq_true rfl⟩) ⟨fun a U g mk q => by obtain ⟨q0, q1, qP, qK, qD, qN⟩ := q; exact ⟨q0, q1, qP, va_K.moved (u := U) (U := U.calling g mk a) (Vm.Alike.refl U.vm) qK, qD, NwA.same (u := U) rfl qN⟩, (va_recv (q0 := 4) (ci := 7) hK hP rfl rfl), fun U hU hW => ⟨rfl, by rw [hU], by rw [hU]; exact hPc, va_K.moved hW.alike hK, hDc.weaken (fun _ _ _ _ => trivial), NwA.warm hW hN⟩⟩ rfl rfl hl.1 rfl (lv_room (Nat.le_of_ble_eq_true rfl)) d_Qu_describeEvent_88 ⟨Nat.le_of_ble_eq_true rfl, Nat.le_of_ble_eq_true rfl⟩) hS (fun q _ h => hFc q h) hFc (fun u9 t9 H12 locs ht9 hvm hw13 hB hz1 hk1 hSn => ?_)
              obtain ⟨kg115, ky116, kn117, hf18, hf19, hf20, hP1, hD1⟩ := hB
              rw [ht9] at hP1
              obtain ⟨hPn, hDn⟩ := va_join (wr := [(q0, .inr (6, [.ref n0, .ref f0, .ref w0, .ref k0, .ref s0, .int (nI qu)])), (f0, .inr (2, [.int (nI pfc), .ref f1, .ref f2, .ref f3, .ref f4, .ref f5, .int (nI pfe), .ref f6, .ref f7, .ref f8, .ref f9, .ref f10, .int pfu, .int pfw])), (f7, .inl (cL, 30, .inr (.inl ftn))), (f8, .inl (cI, 30, .inl fca))]) (w1 := [(k0, .inr (7, [.ref k1, .ref k2, .int (nI kg115), .int (nI kg115)])), (k1, .inl (cL, 815, .inr (.inl ky116))), (k2, .inl (cL, 815, .inr (.inl kn117)))]) hP hD [4, 5, 6] [0, 1, 2, 3] rfl rfl (by decide) (by decide) hk1 hFc hP1 hD1
              replace hP : va_P (dC, dI) clA [(q0, .inr (6, [.ref n0, .ref f0, .ref w0, .ref k0, .ref s0, .int (nI qu)])), (f0, .inr (2, [.int (nI pfc), .ref f1, .ref f2, .ref f3, .ref f4, .ref f5, .int (nI pfe), .ref f6, .ref f7, .ref f8, .ref f9, .ref f10, .int pfu, .int pfw])), (f7, .inl (cL, 30, .inr (.inl ftn))), (f8, .inl (cI, 30, .inl fca)), (k0, .inr (7, [.ref k1, .ref k2, .int (nI kg115), .int (nI kg115)])), (k1, .inl (cL, 815, .inr (.inl ky116))), (k2, .inl (cL, 815, .inr (.inl kn117)))] H12 := hPn
              replace hD : va_D A [(q0, .inr (6, [.ref n0, .ref f0, .ref w0, .ref k0, .ref s0, .int (nI qu)])), (f0, .inr (2, [.int (nI pfc), .ref f1, .ref f2, .ref f3, .ref f4, .ref f5, .int (nI pfe), .ref f6, .ref f7, .ref f8, .ref f9, .ref f10, .int pfu, .int pfw])), (f7, .inl (cL, 30, .inr (.inl ftn))), (f8, .inl (cI, 30, .inl fca)), (k0, .inr (7, [.ref k1, .ref k2, .int (nI kg115), .int (nI kg115)])), (k1, .inl (cL, 815, .inr (.inl ky116))), (k2, .inl (cL, 815, .inr (.inl kn117)))] := hDn
              replace hS := hSn
              clear hPn hDn hSn
              clear hPc hDc hFc hP1 hD1 hk1 hz1 ht9 hvm
              refine W.cs (cells' := 0) (slots' := 0) rfl rfl ?_
              refine lv_iinc (k := 2) (v := nI (i + 1)) (lv' := [(2, .int (nI (i + 1))), (0, .ref q0), (1, .int (nI k))]) hx hb d_Qu_describeEvent_91 hl rfl (nI_1 _) (by decide) rfl (fun ls hln => ?_)
              replace hl : lv_has ls 3 [(2, .int (nI (i + 1))), (0, .ref q0), (1, .int (nI k))] := hln
              clear hln
              refine lv_goto (tgt := 2) hx hb d_Qu_describeEvent_94 (by decide) ?_
              exact hloop1_ih (i + 1) kg115 ky116 kn117 (by first | assumption | omega | trivial | exact AllLt.zero | exact AllN.zero | exact AllM.zero | exact Or.inl rfl | exact Or.inr rfl) (by first | assumption | omega | trivial | exact AllLt.zero | exact AllN.zero | exact AllM.zero | exact Or.inl rfl | exact Or.inr rfl) (by first | assumption | omega | trivial | exact AllLt.zero | exact AllN.zero | exact AllM.zero | exact Or.inl rfl | exact Or.inr rfl) (by first | assumption | omega | trivial | exact AllLt.zero | exact AllN.zero | exact AllM.zero | exact Or.inl rfl | exact Or.inr rfl) _ _ ls (lv_sub hl [1, 2, 0] rfl) (hP.sub [0, 1, 2, 3, 4, 5, 6] rfl) (hD.sub [0, 1, 2, 3, 4, 5, 6] (by decide) rfl) hS (by omega)
        · skip
          refine lv_aload_n hx hb d_Qu_describeEvent_24 rfl (lv_at hl 0 rfl) ?_
          refine va_get (D := (dC, dI)) (ci := 6) (v := .ref k0) (C := "NetUnfolder$Question") (T := T_Qu) (N := 6) hx hb ht in_Qu hown hK hP 0 rfl rfl 3 (by decide) (ht _ wd_2_20) (fun _ h9 => h9) rfl d_Qu_describeEvent_25 ?_
          refine lv_lconst (v := 1) hx hb d_Qu_describeEvent_28 (by decide) ?_
          refine lv_iload_n hx hb d_Qu_describeEvent_29 rfl (lv_at hl 2 rfl) ?_
          refine lv_lshl (v := 1 <<< (Int32.toInt64 (nI i) &&& 63)) hx hb d_Qu_describeEvent_30 rfl ?_
          refine lv_lconst (v := 1) hx hb d_Qu_describeEvent_31 (by decide) ?_
          refine lv_iload_n hx hb d_Qu_describeEvent_32 rfl (lv_at hl 1 rfl) ?_
          refine lv_lshl (v := 1 <<< (Int32.toInt64 (nI k) &&& 63)) hx hb d_Qu_describeEvent_33 rfl ?_
          have hPc := hP.sub (ws' := [(k0, .inr (7, [.ref k1, .ref k2, .int (nI kg2), .int (nI kg2)])), (k1, .inl (cL, 815, .inr (.inl ky2))), (k2, .inl (cL, 815, .inr (.inl kn2)))]) [4, 5, 6] rfl
          have hDc := hD.sub (ws' := [(k0, .inr (7, [.ref k1, .ref k2, .int (nI kg2), .int (nI kg2)])), (k1, .inl (cL, 815, .inr (.inl ky2))), (k2, .inl (cL, 815, .inr (.inl kn2)))]) [4, 5, 6] (by decide) rfl
          have hFc := va_free (wc := [(k0, .inr (7, [.ref k1, .ref k2, .int (nI kg2), .int (nI kg2)])), (k1, .inl (cL, 815, .inr (.inl ky2))), (k2, .inl (cL, 815, .inr (.inl kn2)))]) hD hS hA [4, 5, 6] rfl
          refine va_callv (va_runV (C := "NetUnfolder$Clauses") (As := [.long (1 <<< (Int32.toInt64 (nI i) &&& 63)), .long (1 <<< (Int32.toInt64 (nI k) &&& 63))]) (rest := []) ⟨hx, hb, hml, hown, ht⟩ (c_Cs_give l dC dI cI cL cZ _ k0 k1 k2 kg2 ky2 kn2 (1 <<< (Int32.toInt64 (nI i) &&& 63)) (1 <<< (Int32.toInt64 (nI k) &&& 63)) (by first | assumption | omega | trivial | exact AllLt.zero | exact AllN.zero | exact AllM.zero | exact Or.inl rfl | exact Or.inr rfl) (by first | assumption | omega | trivial | exact AllLt.zero | exact AllN.zero | exact AllM.zero | exact Or.inl rfl | exact Or.inr rfl) (by first | assumption | omega | trivial | exact AllLt.zero | exact AllN.zero | exact AllM.zero | exact Or.inl rfl | exact Or.inr rfl) (by repeat (first | with_reducible assumption | with_reducible exact M38.zero | with_reducible exact M38.all | with_reducible apply M38.or | (with_reducible apply M38.bit; omega) | (with_reducible apply M38.andI; omega) | (with_reducible apply M38.ofI; omega))) (by repeat (first | with_reducible assumption | with_reducible exact M38.zero | with_reducible exact M38.all | with_reducible apply M38.or | (with_reducible apply M38.bit; omega) | (with_reducible apply M38.andI; omega) | (with_reducible apply M38.ofI; omega)))) (cwV 2 ht (good_V wd_3_125 wd_3_126 wd_3_127 wd_1_8 wd_3_128) rfl rfl rfl (by decide +kernel) ⟨Nat.le_of_ble_eq_true rfl, Nat.le_of_ble_eq_true rfl⟩) ⟨fun a U g mk q => by obtain ⟨q0, q1, qP, qK, qD, qN⟩ := q; exact ⟨q0, q1, qP, va_K.moved (u := U) (U := U.calling g mk a) (Vm.Alike.refl U.vm) qK, qD, NwA.same (u := U) rfl qN⟩, (va_recv (q0 := 4) (ci := 7) hK hP rfl rfl), fun U hU hW => ⟨rfl, by rw [hU], by rw [hU]; exact hPc, va_K.moved hW.alike hK, hDc.weaken (fun _ _ _ _ => trivial), NwA.warm hW hN⟩⟩ rfl rfl hl.1 rfl (lv_room (Nat.le_of_ble_eq_true rfl)) d_Qu_describeEvent_34 ⟨Nat.le_of_ble_eq_true rfl, Nat.le_of_ble_eq_true rfl⟩) hS (fun q _ h => hFc q h) hFc (fun u9 t9 H21 locs ht9 hvm hw22 hB hz1 hk1 hSn => ?_)
          obtain ⟨kg124, ky125, kn126, hf27, hf28, hf29, hP1, hD1⟩ := hB
          rw [ht9] at hP1
          obtain ⟨hPn, hDn⟩ := va_join (wr := [(q0, .inr (6, [.ref n0, .ref f0, .ref w0, .ref k0, .ref s0, .int (nI qu)])), (f0, .inr (2, [.int (nI pfc), .ref f1, .ref f2, .ref f3, .ref f4, .ref f5, .int (nI pfe), .ref f6, .ref f7, .ref f8, .ref f9, .ref f10, .int pfu, .int pfw])), (f7, .inl (cL, 30, .inr (.inl ftn))), (f8, .inl (cI, 30, .inl fca))]) (w1 := [(k0, .inr (7, [.ref k1, .ref k2, .int (nI kg124), .int (nI kg124)])), (k1, .inl (cL, 815, .inr (.inl ky125))), (k2, .inl (cL, 815, .inr (.inl kn126)))]) hP hD [4, 5, 6] [0, 1, 2, 3] rfl rfl (by decide) (by decide) hk1 hFc hP1 hD1
          replace hP : va_P (dC, dI) clA [(q0, .inr (6, [.ref n0, .ref f0, .ref w0, .ref k0, .ref s0, .int (nI qu)])), (f0, .inr (2, [.int (nI pfc), .ref f1, .ref f2, .ref f3, .ref f4, .ref f5, .int (nI pfe), .ref f6, .ref f7, .ref f8, .ref f9, .ref f10, .int pfu, .int pfw])), (f7, .inl (cL, 30, .inr (.inl ftn))), (f8, .inl (cI, 30, .inl fca)), (k0, .inr (7, [.ref k1, .ref k2, .int (nI kg124), .int (nI kg124)])), (k1, .inl (cL, 815, .inr (.inl ky125))), (k2, .inl (cL, 815, .inr (.inl kn126)))] H21 := hPn
          replace hD : va_D A [(q0, .inr (6, [.ref n0, .ref f0, .ref w0, .ref k0, .ref s0, .int (nI qu)])), (f0, .inr (2, [.int (nI pfc), .ref f1, .ref f2, .ref f3, .ref f4, .ref f5, .int (nI pfe), .ref f6, .ref f7, .ref f8, .ref f9, .ref f10, .int pfu, .int pfw])), (f7, .inl (cL, 30, .inr (.inl ftn))), (f8, .inl (cI, 30, .inl fca)), (k0, .inr (7, [.ref k1, .ref k2, .int (nI kg124), .int (nI kg124)])), (k1, .inl (cL, 815, .inr (.inl ky125))), (k2, .inl (cL, 815, .inr (.inl kn126)))] := hDn
          replace hS := hSn
          clear hPn hDn hSn
          clear hPc hDc hFc hP1 hD1 hk1 hz1 ht9 hvm
          refine W.cs (cells' := 0) (slots' := 0) rfl rfl ?_
          refine lv_goto (tgt := 91) hx hb d_Qu_describeEvent_37 (by decide) ?_
          refine lv_iinc (k := 2) (v := nI (i + 1)) (lv' := [(2, .int (nI (i + 1))), (0, .ref q0), (1, .int (nI k))]) hx hb d_Qu_describeEvent_91 hl rfl (nI_1 _) (by decide) rfl (fun ls hln => ?_)
          replace hl : lv_has ls 3 [(2, .int (nI (i + 1))), (0, .ref q0), (1, .int (nI k))] := hln
          clear hln
          refine lv_goto (tgt := 2) hx hb d_Qu_describeEvent_94 (by decide) ?_
          exact hloop1_ih (i + 1) kg124 ky125 kn126 (by first | assumption | omega | trivial | exact AllLt.zero | exact AllN.zero | exact AllM.zero | exact Or.inl rfl | exact Or.inr rfl) (by first | assumption | omega | trivial | exact AllLt.zero | exact AllN.zero | exact AllM.zero | exact Or.inl rfl | exact Or.inr rfl) (by first | assumption | omega | trivial | exact AllLt.zero | exact AllN.zero | exact AllM.zero | exact Or.inl rfl | exact Or.inr rfl) (by first | assumption | omega | trivial | exact AllLt.zero | exact AllN.zero | exact AllM.zero | exact Or.inl rfl | exact Or.inr rfl) _ _ ls (lv_sub hl [1, 2, 0] rfl) (hP.sub [0, 1, 2, 3, 4, 5, 6] rfl) (hD.sub [0, 1, 2, 3, 4, 5, 6] (by decide) rfl) hS (by omega)
  exact hloop1 ((k - 0) + 1) 0 kg ky kn (by first | assumption | omega | trivial | exact AllLt.zero | exact AllN.zero | exact AllM.zero | exact Or.inl rfl | exact Or.inr rfl) (by first | assumption | omega | trivial | exact AllLt.zero | exact AllN.zero | exact AllM.zero | exact Or.inl rfl | exact Or.inr rfl) (by first | assumption | omega | trivial | exact AllLt.zero | exact AllN.zero | exact AllM.zero | exact Or.inl rfl | exact Or.inr rfl) (by first | assumption | omega | trivial | exact AllLt.zero | exact AllN.zero | exact AllM.zero | exact Or.inl rfl | exact Or.inr rfl) _ _ ls (lv_sub hl [1, 2, 0] rfl) hP hD hS (Nat.lt_succ_self _)

set_option maxHeartbeats 4000000 in
set_option maxRecDepth 100000 in
theorem c_Qu_describeCondition (l : Launch) (dC : Nat → ClassId) (dI : Nat → Nat → Nat) (cI cL cZ : ClassId) (sz : Nat) (q0 : Nat) (s0 : Nat) (qu : Nat) (n0 : Nat) (w0 : Nat) (f0 : Nat) (f1 : Nat) (f2 : Nat) (f3 : Nat) (f4 : Nat) (f5 : Nat) (f6 : Nat) (f7 : Nat) (f8 : Nat) (f9 : Nat) (f10 : Nat) (pfc : Nat) (pfe : Nat) (pfu : Int32) (pfw : Int32) (fpl : Nat → Int32) (fmk : Nat → Int32) (ftk : Nat → Int32) (fca : Nat → Int32) (k0 : Nat) (k1 : Nat) (k2 : Nat) (kg : Nat) (ky : Nat → Int64) (kn : Nat → Int64) (k : Nat) (hkg : kg ≤ 751) (hky : AllM ky 815) (hkn : AllM kn 815) (hpc : pfc ≤ 60) (hpe : pfe ≤ 30) (hpl : AllLt fpl pfc 8) (hmk : AllN fmk pfc 30) (hqu : qu < 2 ^ 30) (hk : k < pfc) : Met l y_Qu_describeCondition (Cond.code y_Qu_describeCondition prog_6_method_8_code 7 none :: wsA) { frames := 2, cells := 0, slots := 0, locals := 48 } (va_Pc [.ref q0, .int (nI k)] (fun U => U.heap.size = sz ∧ va_P (dC, dI) clA [(q0, .inr (6, [.ref n0, .ref f0, .ref w0, .ref k0, .ref s0, .int (nI qu)])), (f0, .inr (2, [.int (nI pfc), .ref f1, .ref f2, .ref f3, .ref f4, .ref f5, .int (nI pfe), .ref f6, .ref f7, .ref f8, .ref f9, .ref f10, .int pfu, .int pfw])), (f1, .inl (cI, 60, .inl fpl)), (f2, .inl (cI, 60, .inl fmk)), (f3, .inl (cI, 60, .inl ftk)), (f8, .inl (cI, 30, .inl fca)), (k0, .inr (7, [.ref k1, .ref k2, .int (nI kg), .int (nI kg)])), (k1, .inl (cL, 815, .inr (.inl ky))), (k2, .inl (cL, 815, .inr (.inl kn)))] U.heap ∧ va_K (dC, dI) clA [(cI, .int), (cL, .long), (cZ, .boolean)] U ∧ va_D (fun _ => True) [(q0, .inr (6, [.ref n0, .ref f0, .ref w0, .ref k0, .ref s0, .int (nI qu)])), (f0, .inr (2, [.int (nI pfc), .ref f1, .ref f2, .ref f3, .ref f4, .ref f5, .int (nI pfe), .ref f6, .ref f7, .ref f8, .ref f9, .ref f10, .int pfu, .int pfw])), (f1, .inl (cI, 60, .inl fpl)), (f2, .inl (cI, 60, .inl fmk)), (f3, .inl (cI, 60, .inl ftk)), (f8, .inl (cI, 30, .inl fca)), (k0, .inr (7, [.ref k1, .ref k2, .int (nI kg), .int (nI kg)])), (k1, .inl (cL, 815, .inr (.inl ky))), (k2, .inl (cL, 815, .inr (.inl kn)))] ∧ NwA U)) (va_Qv (fun _ : Unit => True) (fun _ t => ∃ (kg1 : Nat), ∃ (ky1 : Nat → Int64), ∃ (kn1 : Nat → Int64), (kg1 ≤ 751) ∧ (AllM ky1 815) ∧ (AllM kn1 815) ∧ va_P (dC, dI) clA [(q0, .inr (6, [.ref n0, .ref f0, .ref w0, .ref k0, .ref s0, .int (nI qu)])), (f0, .inr (2, [.int (nI pfc), .ref f1, .ref f2, .ref f3, .ref f4, .ref f5, .int (nI pfe), .ref f6, .ref f7, .ref f8, .ref f9, .ref f10, .int pfu, .int pfw])), (f1, .inl (cI, 60, .inl fpl)), (f2, .inl (cI, 60, .inl fmk)), (f3, .inl (cI, 60, .inl ftk)), (f8, .inl (cI, 30, .inl fca)), (k0, .inr (7, [.ref k1, .ref k2, .int (nI kg1), .int (nI kg1)])), (k1, .inl (cL, 815, .inr (.inl ky1))), (k2, .inl (cL, 815, .inr (.inl kn1)))] t.heap ∧ va_D (va_A [(q0, .inr (6, [.ref n0, .ref f0, .ref w0, .ref k0, .ref s0, .int (nI qu)])), (f0, .inr (2, [.int (nI pfc), .ref f1, .ref f2, .ref f3, .ref f4, .ref f5, .int (nI pfe), .ref f6, .ref f7, .ref f8, .ref f9, .ref f10, .int pfu, .int pfw])), (f1, .inl (cI, 60, .inl fpl)), (f2, .inl (cI, 60, .inl fmk)), (f3, .inl (cI, 60, .inl ftk)), (f8, .inl (cI, 30, .inl fca)), (k0, .inr (7, [.ref k1, .ref k2, .int (nI kg), .int (nI kg)])), (k1, .inl (cL, 815, .inr (.inl ky))), (k2, .inl (cL, 815, .inr (.inl kn)))] sz) [(q0, .inr (6, [.ref n0, .ref f0, .ref w0, .ref k0, .ref s0, .int (nI qu)])), (f0, .inr (2, [.int (nI pfc), .ref f1, .ref f2, .ref f3, .ref f4, .ref f5, .int (nI pfe), .ref f6, .ref f7, .ref f8, .ref f9, .ref f10, .int pfu, .int pfw])), (f1, .inl (cI, 60, .inl fpl)), (f2, .inl (cI, 60, .inl fmk)), (f3, .inl (cI, 60, .inl ftk)), (f8, .inl (cI, 30, .inl fca)), (k0, .inr (7, [.ref k1, .ref k2, .int (nI kg1), .int (nI kg1)])), (k1, .inl (cL, 815, .inr (.inl ky1))), (k2, .inl (cL, 815, .inr (.inl kn1)))]) (va_A [(q0, .inr (6, [.ref n0, .ref f0, .ref w0, .ref k0, .ref s0, .int (nI qu)])), (f0, .inr (2, [.int (nI pfc), .ref f1, .ref f2, .ref f3, .ref f4, .ref f5, .int (nI pfe), .ref f6, .ref f7, .ref f8, .ref f9, .ref f10, .int pfu, .int pfw])), (f1, .inl (cI, 60, .inl fpl)), (f2, .inl (cI, 60, .inl fmk)), (f3, .inl (cI, 60, .inl ftk)), (f8, .inl (cI, 30, .inl fca)), (k0, .inr (7, [.ref k1, .ref k2, .int (nI kg), .int (nI kg)])), (k1, .inl (cL, 815, .inr (.inl ky))), (k2, .inl (cL, 815, .inr (.inl kn)))] sz)) 0 0 (va_A [(q0, .inr (6, [.ref n0, .ref f0, .ref w0, .ref k0, .ref s0, .int (nI qu)])), (f0, .inr (2, [.int (nI pfc), .ref f1, .ref f2, .ref f3, .ref f4, .ref f5, .int (nI pfe), .ref f6, .ref f7, .ref f8, .ref f9, .ref f10, .int pfu, .int pfw])), (f1, .inl (cI, 60, .inl fpl)), (f2, .inl (cI, 60, .inl fmk)), (f3, .inl (cI, 60, .inl ftk)), (f8, .inl (cI, 30, .inl fca)), (k0, .inr (7, [.ref k1, .ref k2, .int (nI kg), .int (nI kg)])), (k1, .inl (cL, 815, .inr (.inl ky))), (k2, .inl (cL, 815, .inr (.inl kn)))] sz) := by
  refine Met.ofW (cc := prog_6_method_8_code) (maxL := 7) (ret := none) (by decide) rfl ?_
  intro p e s m args below meth c s₁ B hml hv
  obtain ⟨rfl, hsz, hP, hK, hD0, hN⟩ := hv
  have hx := B.exec
  have hb := B.bytes
  have hr := B.returns
  have ht : ∀ w ∈ wsA, w.before _ s = true := fun w h => atoms_spec (ws := (Cond.code y_Qu_describeCondition prog_6_method_8_code 7 none :: wsA)) B.pre w (List.mem_cons_of_mem _ h)
  have hown : s.vm.findClass "NetUnfolder$Question" = some m.cls := findClass_of_methodNamed B.named
  have hlocks := B.notSynchronized
  subst hsz
  have hD := hD0.self (sz := s.heap.size)
  generalize hAe : va_A [(q0, .inr (6, [.ref n0, .ref f0, .ref w0, .ref k0, .ref s0, .int (nI qu)])), (f0, .inr (2, [.int (nI pfc), .ref f1, .ref f2, .ref f3, .ref f4, .ref f5, .int (nI pfe), .ref f6, .ref f7, .ref f8, .ref f9, .ref f10, .int pfu, .int pfw])), (f1, .inl (cI, 60, .inl fpl)), (f2, .inl (cI, 60, .inl fmk)), (f3, .inl (cI, 60, .inl ftk)), (f8, .inl (cI, 30, .inl fca)), (k0, .inr (7, [.ref k1, .ref k2, .int (nI kg), .int (nI kg)])), (k1, .inl (cL, 815, .inr (.inl ky))), (k2, .inl (cL, 815, .inr (.inl kn)))] s.heap.size = A at hD ⊢
  have hA : ∀ q : Nat, s.heap.size ≤ q → A q := fun q h => by rw [← hAe]; exact Or.inr h
  have hS : va_S A s.heap s.heap [] := va_S.rf
  have hl := lv_entry ([.ref q0, .int (nI k)]) (n := 7) (Nat.le_of_ble_eq_true rfl)
  rw [lg_entry_eq]
  generalize (lg_sl ([.ref q0, .int (nI k)]) ++ List.replicate (7 - (lg_sl ([.ref q0, .int (nI k)])).length) Slot.unset).toArray = ls at hl ⊢
  replace hl : lv_has ls 7 [(0, .ref q0), (1, .int (nI k))] := hl
  refine W_Q (fun Q hQ => ?_)
  refine lv_aload_n hx hb d_Qu_describeCondition_0 rfl (lv_at hl 0 rfl) ?_
  refine va_get (D := (dC, dI)) (ci := 6) (v := .ref f0) (C := "NetUnfolder$Question") (T := T_Qu) (N := 6) hx hb ht in_Qu hown hK hP 0 rfl rfl 1 (by decide) (ht _ wd_2_18) (fun _ h9 => h9) rfl d_Qu_describeCondition_1 ?_
  refine va_get (D := (dC, dI)) (ci := 2) (v := .ref f1) (C := "NetUnfolder$Prefix") (T := T_Pf) (N := 14) hx hb ht in_Pf hown hK hP 1 rfl rfl 1 (by decide) (ht _ wd_1_68) (fun _ h9 => h9) rfl d_Qu_describeCondition_4 ?_
  refine lv_iload_n hx hb d_Qu_describeCondition_7 rfl (lv_at hl 1 rfl) ?_
  refine na_iald (k := k) hx hb hK hP 2 0 rfl rfl (by omega) (by decide) d_Qu_describeCondition_8 ?_
  obtain ⟨pp, hpp, epp⟩ := hpl k hk
  refine ci_i (y := nI pp) epp ?_
  refine lv_istore_n (lv' := [(2, .int (nI pp)), (0, .ref q0), (1, .int (nI k))]) hx hb d_Qu_describeCondition_9 rfl hl (by decide) rfl (fun ls hln => ?_)
  replace hl : lv_has ls 7 [(2, .int (nI pp)), (0, .ref q0), (1, .int (nI k))] := hln
  clear hln
  refine lv_aload_n hx hb d_Qu_describeCondition_10 rfl (lv_at hl 1 rfl) ?_
  refine va_get (D := (dC, dI)) (ci := 6) (v := .ref f0) (C := "NetUnfolder$Question") (T := T_Qu) (N := 6) hx hb ht in_Qu hown hK hP 0 rfl rfl 1 (by decide) (ht _ wd_2_18) (fun _ h9 => h9) rfl d_Qu_describeCondition_11 ?_
  refine va_get (D := (dC, dI)) (ci := 2) (v := .ref f3) (C := "NetUnfolder$Prefix") (T := T_Pf) (N := 14) hx hb ht in_Pf hown hK hP 1 rfl rfl 3 (by decide) (ht _ wd_1_74) (fun _ h9 => h9) rfl d_Qu_describeCondition_14 ?_
  refine lv_iload_n hx hb d_Qu_describeCondition_17 rfl (lv_at hl 2 rfl) ?_
  refine na_iald (k := k) hx hb hK hP 4 0 rfl rfl (by omega) (by decide) d_Qu_describeCondition_18 ?_
  refine lv_aload_n hx hb d_Qu_describeCondition_19 rfl (lv_at hl 1 rfl) ?_
  refine va_get (D := (dC, dI)) (ci := 6) (v := .int (nI qu)) (C := "NetUnfolder$Question") (T := T_Qu) (N := 6) hx hb ht in_Qu hown hK hP 0 rfl rfl 5 (by decide) (ht _ wd_2_22) (fun _ h9 => h9) rfl d_Qu_describeCondition_20 ?_
  refine lv_iand hx hb d_Qu_describeCondition_23 ?_
  refine lv_istore_n (lv' := [(3, .int ((ftk k) &&& (nI qu))), (2, .int (nI pp)), (0, .ref q0), (1, .int (nI k))]) hx hb d_Qu_describeCondition_24 rfl hl (by decide) rfl (fun ls hln => ?_)
  replace hl : lv_has ls 7 [(3, .int ((ftk k) &&& (nI qu))), (2, .int (nI pp)), (0, .ref q0), (1, .int (nI k))] := hln
  clear hln
  refine lv_aload_n hx hb d_Qu_describeCondition_25 rfl (lv_at hl 2 rfl) ?_
  refine va_get (D := (dC, dI)) (ci := 6) (v := .ref f0) (C := "NetUnfolder$Question") (T := T_Qu) (N := 6) hx hb ht in_Qu hown hK hP 0 rfl rfl 1 (by decide) (ht _ wd_2_18) (fun _ h9 => h9) rfl d_Qu_describeCondition_26 ?_
  refine va_get (D := (dC, dI)) (ci := 2) (v := .ref f2) (C := "NetUnfolder$Prefix") (T := T_Pf) (N := 14) hx hb ht in_Pf hown hK hP 1 rfl rfl 2 (by decide) (ht _ wd_1_71) (fun _ h9 => h9) rfl d_Qu_describeCondition_29 ?_
  refine lv_iload_n hx hb d_Qu_describeCondition_32 rfl (lv_at hl 3 rfl) ?_
  refine na_iald (k := k) hx hb hK hP 3 0 rfl rfl (by omega) (by decide) d_Qu_describeCondition_33 ?_
  refine lv_iconst (v := (-1)) hx hb d_Qu_describeCondition_34 (by decide) ?_
  refine lv_icmp_ne (tgt := 42) hx hb d_Qu_describeCondition_35 (by decide) (fun hb1 => ?_) (fun hb1 => ?_)
  · skip
    refine lv_lconst (v := 1) hx hb d_Qu_describeCondition_42 (by decide) ?_
    refine lv_aload_n hx hb d_Qu_describeCondition_43 rfl (lv_at hl 2 rfl) ?_
    refine va_get (D := (dC, dI)) (ci := 6) (v := .ref f0) (C := "NetUnfolder$Question") (T := T_Qu) (N := 6) hx hb ht in_Qu hown hK hP 0 rfl rfl 1 (by decide) (ht _ wd_2_18) (fun _ h9 => h9) rfl d_Qu_describeCondition_44 ?_
    refine va_get (D := (dC, dI)) (ci := 2) (v := .ref f2) (C := "NetUnfolder$Prefix") (T := T_Pf) (N := 14) hx hb ht in_Pf hown hK hP 1 rfl rfl 2 (by decide) (ht _ wd_1_71) (fun _ h9 => h9) rfl d_Qu_describeCondition_47 ?_
    refine lv_iload_n hx hb d_Qu_describeCondition_50 rfl (lv_at hl 3 rfl) ?_
    refine na_iald (k := k) hx hb hK hP 3 0 rfl rfl (by omega) (by decide) d_Qu_describeCondition_51 ?_
    obtain ⟨q2, hq3, eq4⟩ := (hmk k hk).resolve_left hb1
    refine ci_i (y := nI q2) eq4 ?_
    refine lv_lshl (v := 1 <<< (Int32.toInt64 (nI q2) &&& 63)) hx hb d_Qu_describeCondition_52 rfl ?_
    refine lv_lstore (lv' := [(4, .long (1 <<< (Int32.toInt64 (nI q2) &&& 63))), (3, .int ((ftk k) &&& (nI qu))), (2, .int (nI pp)), (0, .ref q0), (1, .int (nI k))]) hx hb d_Qu_describeCondition_53 hl (by decide) rfl (fun ls hln => ?_)
    replace hl : lv_has ls 7 [(4, .long (1 <<< (Int32.toInt64 (nI q2) &&& 63))), (3, .int ((ftk k) &&& (nI qu))), (2, .int (nI pp)), (0, .ref q0), (1, .int (nI k))] := hln
    clear hln
    refine lv_aload_n hx hb d_Qu_describeCondition_55 rfl (lv_at hl 3 rfl) ?_
    refine va_get (D := (dC, dI)) (ci := 6) (v := .ref k0) (C := "NetUnfolder$Question") (T := T_Qu) (N := 6) hx hb ht in_Qu hown hK hP 0 rfl rfl 3 (by decide) (ht _ wd_2_20) (fun _ h9 => h9) rfl d_Qu_describeCondition_56 ?_
    refine lv_iload_n hx hb d_Qu_describeCondition_59 rfl (lv_at hl 1 rfl) ?_
    refine lv_i2l (v := Int32.toInt64 ((ftk k) &&& (nI qu))) hx hb d_Qu_describeCondition_60 rfl ?_
    refine lv_iload_n hx hb d_Qu_describeCondition_61 rfl (lv_at hl 2 rfl) ?_
    have hPc : va_P (dC, dI) clA [] _ := pu_P (H := s.heap)
    have hDc : va_D (fun _ => True) [] := pu_D
    have hFc := pu_free hS hA
    refine va_calll (va_runS (As := [.int (nI pp)]) (rest := [.long (Int32.toInt64 ((ftk k) &&& (nI qu))), .ref k0]) ⟨hx, hb, hml, hown, ht⟩ (c_Qu_placeBit l dC dI cI cL cZ _ pp (by first | assumption | omega | trivial | exact AllLt.zero | exact AllN.zero | exact AllM.zero | exact Or.inl rfl | exact Or.inr rfl)) (va_cwS 1 ht (good_S wd_3_133 wd_3_134 wd_1_7 wd_3_135) rfl rfl rfl (by decide +kernel) ⟨Nat.le_of_ble_eq_true rfl, Nat.le_of_ble_eq_true rfl⟩) ⟨fun a U g mk q => by obtain ⟨q0, q1, qP, qK, qD, qN⟩ := q; exact ⟨q0, q1, qP, va_K.moved (u := U) (U := U.calling g mk a) (Vm.Alike.refl U.vm) qK, qD, NwA.same (u := U) rfl qN⟩, fun U hU hW => ⟨rfl, by rw [hU], by rw [hU]; exact hPc, va_K.moved hW.alike hK, hDc.weaken (fun _ _ _ _ => trivial), NwA.warm hW hN⟩⟩ rfl rfl hl.1 rfl (lv_room (Nat.le_of_ble_eq_true rfl)) d_Qu_describeCondition_62 ⟨Nat.le_of_ble_eq_true rfl, Nat.le_of_ble_eq_true rfl⟩) hS (fun q _ h => hFc q h) hFc (fun r7 u9 t9 H5 locs ht9 hvm hw6 hB hz1 hk1 hSn => ?_)
    replace hP : va_P (dC, dI) clA [(q0, .inr (6, [.ref n0, .ref f0, .ref w0, .ref k0, .ref s0, .int (nI qu)])), (f0, .inr (2, [.int (nI pfc), .ref f1, .ref f2, .ref f3, .ref f4, .ref f5, .int (nI pfe), .ref f6, .ref f7, .ref f8, .ref f9, .ref f10, .int pfu, .int pfw])), (f1, .inl (cI, 60, .inl fpl)), (f2, .inl (cI, 60, .inl fmk)), (f3, .inl (cI, 60, .inl ftk)), (f8, .inl (cI, 30, .inl fca)), (k0, .inr (7, [.ref k1, .ref k2, .int (nI kg), .int (nI kg)])), (k1, .inl (cL, 815, .inr (.inl ky))), (k2, .inl (cL, 815, .inr (.inl kn)))] H5 := pu_keep hP hk1
    replace hS := hSn
    clear hSn hPc hDc hFc hk1 hz1 ht9 hvm hB
    refine W.cs (cells' := 0) (slots' := 0) rfl rfl ?_
    have hr8 := hw6
    refine lv_lor hx hb d_Qu_describeCondition_65 ?_
    refine lv_lload hx hb d_Qu_describeCondition_66 (lv_at hl 0 rfl) ?_
    have hPc := hP.sub (ws' := [(k0, .inr (7, [.ref k1, .ref k2, .int (nI kg), .int (nI kg)])), (k1, .inl (cL, 815, .inr (.inl ky))), (k2, .inl (cL, 815, .inr (.inl kn)))]) [6, 7, 8] rfl
    have hDc := hD.sub (ws' := [(k0, .inr (7, [.ref k1, .ref k2, .int (nI kg), .int (nI kg)])), (k1, .inl (cL, 815, .inr (.inl ky))), (k2, .inl (cL, 815, .inr (.inl kn)))]) [6, 7, 8] (by decide) rfl
    have hFc := va_free (wc := [(k0, .inr (7, [.ref k1, .ref k2, .int (nI kg), .int (nI kg)])), (k1, .inl (cL, 815, .inr (.inl ky))), (k2, .inl (cL, 815, .inr (.inl kn)))]) hD hS hA [6, 7, 8] rfl
    refine va_callv (va_runV (C := "NetUnfolder$Clauses") (As := [.long ((Int32.toInt64 ((ftk k) &&& (nI qu))) ||| r7), .long (1 <<< (Int32.toInt64 (nI q2) &&& 63))]) (rest := []) ⟨hx, hb, hml, hown, ht⟩ (c_Cs_give l dC dI cI cL cZ _ k0 k1 k2 kg ky kn ((Int32.toInt64 ((ftk k) &&& (nI qu))) ||| r7) (1 <<< (Int32.toInt64 (nI q2) &&& 63)) (by first | assumption | omega | trivial | exact AllLt.zero | exact AllN.zero | exact AllM.zero | exact Or.inl rfl | exact Or.inr rfl) (by first | assumption | omega | trivial | exact AllLt.zero | exact AllN.zero | exact AllM.zero | exact Or.inl rfl | exact Or.inr rfl) (by first | assumption | omega | trivial | exact AllLt.zero | exact AllN.zero | exact AllM.zero | exact Or.inl rfl | exact Or.inr rfl) (by repeat (first | with_reducible assumption | with_reducible exact M38.zero | with_reducible exact M38.all | with_reducible apply M38.or | (with_reducible apply M38.bit; omega) | (with_reducible apply M38.andI; omega) | (with_reducible apply M38.ofI; omega))) (by repeat (first | with_reducible assumption | with_reducible exact M38.zero | with_reducible exact M38.all | with_reducible apply M38.or | (with_reducible apply M38.bit; omega) | (with_reducible apply M38.andI; omega) | (with_reducible apply M38.ofI; omega)))) (cwV 2 ht (good_V wd_3_125 wd_3_126 wd_3_127 wd_1_8 wd_3_128) rfl rfl rfl (by decide +kernel) ⟨Nat.le_of_ble_eq_true rfl, Nat.le_of_ble_eq_true rfl⟩) ⟨fun a U g mk q => by obtain ⟨q0, q1, qP, qK, qD, qN⟩ := q; exact ⟨q0, q1, qP, va_K.moved (u := U) (U := U.calling g mk a) (Vm.Alike.refl U.vm) qK, qD, NwA.same (u := U) rfl qN⟩, (va_recv (q0 := 6) (ci := 7) hK hP rfl rfl), fun U hU hW => ⟨rfl, by rw [hU], by rw [hU]; exact hPc, va_K.moved hW.alike hK, hDc.weaken (fun _ _ _ _ => trivial), NwA.warm hW hN⟩⟩ rfl rfl hl.1 rfl (lv_room (Nat.le_of_ble_eq_true rfl)) d_Qu_describeCondition_68 ⟨Nat.le_of_ble_eq_true rfl, Nat.le_of_ble_eq_true rfl⟩) hS (fun q _ h => hFc q h) hFc (fun u9 t9 H9 locs ht9 hvm hw10 hB hz1 hk1 hSn => ?_)
    obtain ⟨kg112, ky113, kn114, hf15, hf16, hf17, hP1, hD1⟩ := hB
    rw [ht9] at hP1
    obtain ⟨hPn, hDn⟩ := va_join (wr := [(q0, .inr (6, [.ref n0, .ref f0, .ref w0, .ref k0, .ref s0, .int (nI qu)])), (f0, .inr (2, [.int (nI pfc), .ref f1, .ref f2, .ref f3, .ref f4, .ref f5, .int (nI pfe), .ref f6, .ref f7, .ref f8, .ref f9, .ref f10, .int pfu, .int pfw])), (f1, .inl (cI, 60, .inl fpl)), (f2, .inl (cI, 60, .inl fmk)), (f3, .inl (cI, 60, .inl ftk)), (f8, .inl (cI, 30, .inl fca))]) (w1 := [(k0, .inr (7, [.ref k1, .ref k2, .int (nI kg112), .int (nI kg112)])), (k1, .inl (cL, 815, .inr (.inl ky113))), (k2, .inl (cL, 815, .inr (.inl kn114)))]) hP hD [6, 7, 8] [0, 1, 2, 3, 4, 5] rfl rfl (by decide) (by decide) hk1 hFc hP1 hD1
    replace hP : va_P (dC, dI) clA [(q0, .inr (6, [.ref n0, .ref f0, .ref w0, .ref k0, .ref s0, .int (nI qu)])), (f0, .inr (2, [.int (nI pfc), .ref f1, .ref f2, .ref f3, .ref f4, .ref f5, .int (nI pfe), .ref f6, .ref f7, .ref f8, .ref f9, .ref f10, .int pfu, .int pfw])), (f1, .inl (cI, 60, .inl fpl)), (f2, .inl (cI, 60, .inl fmk)), (f3, .inl (cI, 60, .inl ftk)), (f8, .inl (cI, 30, .inl fca)), (k0, .inr (7, [.ref k1, .ref k2, .int (nI kg112), .int (nI kg112)])), (k1, .inl (cL, 815, .inr (.inl ky113))), (k2, .inl (cL, 815, .inr (.inl kn114)))] H9 := hPn
    replace hD : va_D A [(q0, .inr (6, [.ref n0, .ref f0, .ref w0, .ref k0, .ref s0, .int (nI qu)])), (f0, .inr (2, [.int (nI pfc), .ref f1, .ref f2, .ref f3, .ref f4, .ref f5, .int (nI pfe), .ref f6, .ref f7, .ref f8, .ref f9, .ref f10, .int pfu, .int pfw])), (f1, .inl (cI, 60, .inl fpl)), (f2, .inl (cI, 60, .inl fmk)), (f3, .inl (cI, 60, .inl ftk)), (f8, .inl (cI, 30, .inl fca)), (k0, .inr (7, [.ref k1, .ref k2, .int (nI kg112), .int (nI kg112)])), (k1, .inl (cL, 815, .inr (.inl ky113))), (k2, .inl (cL, 815, .inr (.inl kn114)))] := hDn
    replace hS := hSn
    clear hPn hDn hSn
    clear hPc hDc hFc hP1 hD1 hk1 hz1 ht9 hvm
    refine W.cs (cells' := 0) (slots' := 0) rfl rfl ?_
    refine lv_iconst (v := 0) hx hb d_Qu_describeCondition_71 (by decide) ?_
    refine lv_istore (lv' := [(6, .int 0), (4, .long (1 <<< (Int32.toInt64 (nI q2) &&& 63))), (3, .int ((ftk k) &&& (nI qu))), (2, .int (nI pp)), (0, .ref q0), (1, .int (nI k))]) hx hb d_Qu_describeCondition_72 hl (by decide) rfl (fun ls hln => ?_)
    replace hl : lv_has ls 7 [(6, .int 0), (4, .long (1 <<< (Int32.toInt64 (nI q2) &&& 63))), (3, .int ((ftk k) &&& (nI qu))), (2, .int (nI pp)), (0, .ref q0), (1, .int (nI k))] := hln
    clear hln
    have hloop18 : ∀ (n74 : Nat) (i : Nat) (x3 : Int32) (x4 : Int64) (kg2 : Nat) (ky2 : Nat → Int64) (kn2 : Nat → Int64) (hi : i ≤ pfe) (hkg2 : kg2 ≤ 751) (hky2 : AllM ky2 815) (hkn2 : AllM kn2 815) (H : Heap) (locs : List Loc) (ls : Array Slot) (hl : lv_has ls 7 [(0, .ref q0), (1, .int (nI k)), (2, .int (nI pp)), (3, .int x3), (4, .long x4), (6, .int (nI i))]) (hP : va_P (dC, dI) clA [(q0, .inr (6, [.ref n0, .ref f0, .ref w0, .ref k0, .ref s0, .int (nI qu)])), (f0, .inr (2, [.int (nI pfc), .ref f1, .ref f2, .ref f3, .ref f4, .ref f5, .int (nI pfe), .ref f6, .ref f7, .ref f8, .ref f9, .ref f10, .int pfu, .int pfw])), (f1, .inl (cI, 60, .inl fpl)), (f2, .inl (cI, 60, .inl fmk)), (f3, .inl (cI, 60, .inl ftk)), (f8, .inl (cI, 30, .inl fca)), (k0, .inr (7, [.ref k1, .ref k2, .int (nI kg2), .int (nI kg2)])), (k1, .inl (cL, 815, .inr (.inl ky2))), (k2, .inl (cL, 815, .inr (.inl kn2)))] H) (hD : va_D A [(q0, .inr (6, [.ref n0, .ref f0, .ref w0, .ref k0, .ref s0, .int (nI qu)])), (f0, .inr (2, [.int (nI pfc), .ref f1, .ref f2, .ref f3, .ref f4, .ref f5, .int (nI pfe), .ref f6, .ref f7, .ref f8, .ref f9, .ref f10, .int pfu, .int pfw])), (f1, .inl (cI, 60, .inl fpl)), (f2, .inl (cI, 60, .inl fmk)), (f3, .inl (cI, 60, .inl ftk)), (f8, .inl (cI, 30, .inl fca)), (k0, .inr (7, [.ref k1, .ref k2, .int (nI kg2), .int (nI kg2)])), (k1, .inl (cL, 815, .inr (.inl ky2))), (k2, .inl (cL, 815, .inr (.inl kn2)))]) (hS : va_S A s.heap H locs) (hm74 : pfe - i < n74), W p l e (headSpec (Cond.code y_Qu_describeCondition prog_6_method_8_code 7 none :: wsA) { frames := 2, cells := 0, slots := 0, locals := 48 }).room s m ([.ref q0, .int (nI k)] : List Value).toArray below meth c H locs 0 0 Q (F0 m 74 ls []) := by
      clear hl hP hD hS
      intro n74
      induction n74 with
      | zero => intro i x3 x4 kg2 ky2 kn2 hi hkg2 hky2 hkn2 H locs ls hl hP hD hS hm; exact absurd hm (Nat.not_lt_zero _)
      | succ n74 hloop18_ih =>
        intro i x3 x4 kg2 ky2 kn2 hi hkg2 hky2 hkn2 H locs ls hl hP hD hS hm74
        refine lv_iload hx hb d_Qu_describeCondition_74 (lv_at hl 5 rfl) ?_
        refine lv_aload_n hx hb d_Qu_describeCondition_76 rfl (lv_at hl 0 rfl) ?_
        refine va_get (D := (dC, dI)) (ci := 6) (v := .ref f0) (C := "NetUnfolder$Question") (T := T_Qu) (N := 6) hx hb ht in_Qu hown hK hP 0 rfl rfl 1 (by decide) (ht _ wd_2_18) (fun _ h9 => h9) rfl d_Qu_describeCondition_77 ?_
        refine va_get (D := (dC, dI)) (ci := 2) (v := .int (nI pfe)) (C := "NetUnfolder$Prefix") (T := T_Pf) (N := 14) hx hb ht in_Pf hown hK hP 1 rfl rfl 6 (by decide) (ht _ wd_1_84) (fun _ h9 => h9) rfl d_Qu_describeCondition_80 ?_
        refine lv_icmp_ge (tgt := 125) hx hb d_Qu_describeCondition_83 (by decide) (fun hb19 => ?_) (fun hb19 => ?_)
        · skip
          replace hb19 := cv_le (a := pfe) (b := i) (by omega) (by omega) hb19
          have hP9 := hP.sub (ws' := [(q0, .inr (6, [.ref n0, .ref f0, .ref w0, .ref k0, .ref s0, .int (nI qu)])), (f0, .inr (2, [.int (nI pfc), .ref f1, .ref f2, .ref f3, .ref f4, .ref f5, .int (nI pfe), .ref f6, .ref f7, .ref f8, .ref f9, .ref f10, .int pfu, .int pfw])), (f1, .inl (cI, 60, .inl fpl)), (f2, .inl (cI, 60, .inl fmk)), (f3, .inl (cI, 60, .inl ftk)), (f8, .inl (cI, 30, .inl fca)), (k0, .inr (7, [.ref k1, .ref k2, .int (nI kg2), .int (nI kg2)])), (k1, .inl (cL, 815, .inr (.inl ky2))), (k2, .inl (cL, 815, .inr (.inl kn2)))]) [0, 1, 2, 3, 4, 5, 6, 7, 8] rfl
          have hD9 := hD.sub (ws' := [(q0, .inr (6, [.ref n0, .ref f0, .ref w0, .ref k0, .ref s0, .int (nI qu)])), (f0, .inr (2, [.int (nI pfc), .ref f1, .ref f2, .ref f3, .ref f4, .ref f5, .int (nI pfe), .ref f6, .ref f7, .ref f8, .ref f9, .ref f10, .int pfu, .int pfw])), (f1, .inl (cI, 60, .inl fpl)), (f2, .inl (cI, 60, .inl fmk)), (f3, .inl (cI, 60, .inl ftk)), (f8, .inl (cI, 30, .inl fca)), (k0, .inr (7, [.ref k1, .ref k2, .int (nI kg2), .int (nI kg2)])), (k1, .inl (cL, 815, .inr (.inl ky2))), (k2, .inl (cL, 815, .inr (.inl kn2)))]) [0, 1, 2, 3, 4, 5, 6, 7, 8] (by decide) rfl
          subst hQ
          exact W.vret hx hb hr (fun t9 ht9 hW => ⟨⟨(), rfl, trivial, kg2, ky2, kn2, (by first | assumption | omega | trivial | exact AllLt.zero | exact AllN.zero | exact AllM.zero | exact Or.inl rfl | exact Or.inr rfl), (by first | assumption | omega | trivial | exact AllLt.zero | exact AllN.zero | exact AllM.zero | exact Or.inl rfl | exact Or.inr rfl), (by first | assumption | omega | trivial | exact AllLt.zero | exact AllN.zero | exact AllM.zero | exact Or.inl rfl | exact Or.inr rfl), by rw [ht9]; exact hP9, hD9⟩, hS.F ht9⟩) hS.2.2 d_Qu_describeCondition_125
        · skip
          replace hb19 := cv_nle (a := pfe) (b := i) (by omega) (by omega) hb19
          refine lv_iload_n hx hb d_Qu_describeCondition_86 rfl (lv_at hl 3 rfl) ?_
          refine lv_i2l (v := Int32.toInt64 x3) hx hb d_Qu_describeCondition_87 rfl ?_
          refine lv_iload hx hb d_Qu_describeCondition_88 (lv_at hl 5 rfl) ?_
          have hPc : va_P (dC, dI) clA [] _ := pu_P (H := H)
          have hDc : va_D (fun _ => True) [] := pu_D
          have hFc := pu_free hS hA
          refine va_calli (va_runSN (As := [.long (Int32.toInt64 x3), .int (nI i)]) (rest := []) ⟨hx, hb, hml, hown, ht⟩ (c_NU_has l dC dI cI cL cZ _ (Int32.toInt64 x3) i (by first | assumption | omega | trivial | exact AllLt.zero | exact AllN.zero | exact AllM.zero | exact Or.inl rfl | exact Or.inr rfl)) ⟨va_cnB 2 ht (goodA wd_2_102) rfl rfl rfl hN.2.2.2.2.2.2.2.1 (ht _ wd_1_1) (by decide +kernel) ⟨Nat.le_of_ble_eq_true rfl, Nat.le_of_ble_eq_true rfl⟩, ht _ wd_2_101, trivial⟩ ⟨fun a U g mk q => by obtain ⟨q0, q1, qP, qK, qD, qN⟩ := q; exact ⟨q0, q1, qP, va_K.moved (u := U) (U := U.calling g mk a) (Vm.Alike.refl U.vm) qK, qD, NwA.same (u := U) rfl qN⟩, fun U hU hW => ⟨rfl, by rw [hU], by rw [hU]; exact hPc, va_K.moved hW.alike hK, hDc.weaken (fun _ _ _ _ => trivial), NwA.warm hW hN⟩⟩ rfl rfl hl.1 rfl (lv_room (Nat.le_of_ble_eq_true rfl)) d_Qu_describeCondition_90 ⟨Nat.le_of_ble_eq_true rfl, Nat.le_of_ble_eq_true rfl⟩) hS (fun q _ h => hFc q h) hFc (fun r22 u9 t9 H20 locs ht9 hvm hw21 hB hz1 hk1 hSn => ?_)
          replace hP : va_P (dC, dI) clA [(q0, .inr (6, [.ref n0, .ref f0, .ref w0, .ref k0, .ref s0, .int (nI qu)])), (f0, .inr (2, [.int (nI pfc), .ref f1, .ref f2, .ref f3, .ref f4, .ref f5, .int (nI pfe), .ref f6, .ref f7, .ref f8, .ref f9, .ref f10, .int pfu, .int pfw])), (f1, .inl (cI, 60, .inl fpl)), (f2, .inl (cI, 60, .inl fmk)), (f3, .inl (cI, 60, .inl ftk)), (f8, .inl (cI, 30, .inl fca)), (k0, .inr (7, [.ref k1, .ref k2, .int (nI kg2), .int (nI kg2)])), (k1, .inl (cL, 815, .inr (.inl ky2))), (k2, .inl (cL, 815, .inr (.inl kn2)))] H20 := pu_keep hP hk1
          replace hS := hSn
          clear hSn hPc hDc hFc hk1 hz1 ht9 hvm hB
          refine W.cs (cells' := 0) (slots' := 0) rfl rfl ?_
          subst hw21
          refine lv_if_eq (tgt := 119) hx hb d_Qu_describeCondition_93 (by decide) (fun hb23 => ?_) (fun hb23 => ?_)
          · skip
            refine lv_iinc (k := 5) (v := nI (i + 1)) (lv' := [(6, .int (nI (i + 1))), (0, .ref q0), (1, .int (nI k)), (2, .int (nI pp)), (3, .int x3), (4, .long x4)]) hx hb d_Qu_describeCondition_119 hl rfl (nI_1 _) (by decide) rfl (fun ls hln => ?_)
            replace hl : lv_has ls 7 [(6, .int (nI (i + 1))), (0, .ref q0), (1, .int (nI k)), (2, .int (nI pp)), (3, .int x3), (4, .long x4)] := hln
            clear hln
            refine lv_goto (tgt := 74) hx hb d_Qu_describeCondition_122 (by decide) ?_
            exact hloop18_ih (i + 1) x3 x4 kg2 ky2 kn2 (by first | assumption | omega | trivial | exact AllLt.zero | exact AllN.zero | exact AllM.zero | exact Or.inl rfl | exact Or.inr rfl) (by first | assumption | omega | trivial | exact AllLt.zero | exact AllN.zero | exact AllM.zero | exact Or.inl rfl | exact Or.inr rfl) (by first | assumption | omega | trivial | exact AllLt.zero | exact AllN.zero | exact AllM.zero | exact Or.inl rfl | exact Or.inr rfl) (by first | assumption | omega | trivial | exact AllLt.zero | exact AllN.zero | exact AllM.zero | exact Or.inl rfl | exact Or.inr rfl) _ _ ls (lv_sub hl [1, 2, 3, 4, 5, 0] rfl) (hP.sub [0, 1, 2, 3, 4, 5, 6, 7, 8] rfl) (hD.sub [0, 1, 2, 3, 4, 5, 6, 7, 8] (by decide) rfl) hS (by omega)
          · skip
            refine lv_aload_n hx hb d_Qu_describeCondition_96 rfl (lv_at hl 0 rfl) ?_
            refine va_get (D := (dC, dI)) (ci := 6) (v := .ref k0) (C := "NetUnfolder$Question") (T := T_Qu) (N := 6) hx hb ht in_Qu hown hK hP 0 rfl rfl 3 (by decide) (ht _ wd_2_20) (fun _ h9 => h9) rfl d_Qu_describeCondition_97 ?_
            refine lv_aload_n hx hb d_Qu_describeCondition_100 rfl (lv_at hl 0 rfl) ?_
            refine lv_iload_n hx hb d_Qu_describeCondition_101 rfl (lv_at hl 2 rfl) ?_
            refine lv_iload hx hb d_Qu_describeCondition_102 (lv_at hl 5 rfl) ?_
            have hPc := hP.sub (ws' := [(q0, .inr (6, [.ref n0, .ref f0, .ref w0, .ref k0, .ref s0, .int (nI qu)])), (f0, .inr (2, [.int (nI pfc), .ref f1, .ref f2, .ref f3, .ref f4, .ref f5, .int (nI pfe), .ref f6, .ref f7, .ref f8, .ref f9, .ref f10, .int pfu, .int pfw])), (f1, .inl (cI, 60, .inl fpl)), (f2, .inl (cI, 60, .inl fmk)), (f8, .inl (cI, 30, .inl fca))]) [0, 1, 2, 3, 5] rfl
            have hDc := hD.sub (ws' := [(q0, .inr (6, [.ref n0, .ref f0, .ref w0, .ref k0, .ref s0, .int (nI qu)])), (f0, .inr (2, [.int (nI pfc), .ref f1, .ref f2, .ref f3, .ref f4, .ref f5, .int (nI pfe), .ref f6, .ref f7, .ref f8, .ref f9, .ref f10, .int pfu, .int pfw])), (f1, .inl (cI, 60, .inl fpl)), (f2, .inl (cI, 60, .inl fmk)), (f8, .inl (cI, 30, .inl fca))]) [0, 1, 2, 3, 5] (by decide) rfl
            have hFc := va_free (wc := [(q0, .inr (6, [.ref n0, .ref f0, .ref w0, .ref k0, .ref s0, .int (nI qu)])), (f0, .inr (2, [.int (nI pfc), .ref f1, .ref f2, .ref f3, .ref f4, .ref f5, .int (nI pfe), .ref f6, .ref f7, .ref f8, .ref f9, .ref f10, .int pfu, .int pfw])), (f1, .inl (cI, 60, .inl fpl)), (f2, .inl (cI, 60, .inl fmk)), (f8, .inl (cI, 30, .inl fca))]) hD hS hA [0, 1, 2, 3, 5] rfl
            refine va_calll (va_runV (C := "NetUnfolder$Question") (As := [.int (nI pp), .int (nI i)]) (rest := [.ref k0]) ⟨hx, hb, hml, hown, ht⟩ (c_Qu_makersOf l dC dI cI cL cZ _ q0 s0 qu n0 w0 f0 f1 f2 f3 f4 f5 f6 f7 f8 f9 f10 pfc pfe pfu pfw fpl fmk fca k0 pp (nI i) (by first | assumption | omega | trivial | exact AllLt.zero | exact AllN.zero | exact AllM.zero | exact Or.inl rfl | exact Or.inr rfl) (by first | assumption | omega | trivial | exact AllLt.zero | exact AllN.zero | exact AllM.zero | exact Or.inl rfl | exact Or.inr rfl) (Or.inr ⟨_, by omega, rfl⟩)) (cwV 2 ht (good_V wd_3_136 wd_3_138 ws_Qu_makersOf wd_1_7 wd_3_139) rfl rfl rfl (by decide +kernel) ⟨Nat.le_of_ble_eq_true rfl, Nat.le_of_ble_eq_true rfl⟩) ⟨fun a U g mk q => by obtain ⟨q0, q1, qP, qK, qD, qN⟩ := q; exact ⟨q0, q1, qP, va_K.moved (u := U) (U := U.calling g mk a) (Vm.Alike.refl U.vm) qK, qD, NwA.same (u := U) rfl qN⟩, (va_recv (q0 := 0) (ci := 6) hK hP rfl rfl), fun U hU hW => ⟨rfl, by rw [hU], by rw [hU]; exact hPc, va_K.moved hW.alike hK, hDc.weaken (fun _ _ _ _ => trivial), NwA.warm hW hN⟩⟩ rfl rfl hl.1 rfl (lv_room (Nat.le_of_ble_eq_true rfl)) d_Qu_describeCondition_104 ⟨Nat.le_of_ble_eq_true rfl, Nat.le_of_ble_eq_true rfl⟩) hS (fun q _ h => hFc q h) hFc (fun r26 u9 t9 H24 locs ht9 hvm hw25 hB hz1 hk1 hSn => ?_)
            obtain ⟨hP1, hD1⟩ := hB
            rw [ht9] at hP1
            obtain ⟨hPn, hDn⟩ := va_join (wr := [(f3, .inl (cI, 60, .inl ftk)), (k0, .inr (7, [.ref k1, .ref k2, .int (nI kg2), .int (nI kg2)])), (k1, .inl (cL, 815, .inr (.inl ky2))), (k2, .inl (cL, 815, .inr (.inl kn2)))]) (w1 := [(q0, .inr (6, [.ref n0, .ref f0, .ref w0, .ref k0, .ref s0, .int (nI qu)])), (f0, .inr (2, [.int (nI pfc), .ref f1, .ref f2, .ref f3, .ref f4, .ref f5, .int (nI pfe), .ref f6, .ref f7, .ref f8, .ref f9, .ref f10, .int pfu, .int pfw])), (f1, .inl (cI, 60, .inl fpl)), (f2, .inl (cI, 60, .inl fmk)), (f8, .inl (cI, 30, .inl fca))]) hP hD [0, 1, 2, 3, 5] [4, 6, 7, 8] rfl rfl (by decide) (by decide) hk1 hFc hP1 hD1
            replace hP : va_P (dC, dI) clA [(f3, .inl (cI, 60, .inl ftk)), (k0, .inr (7, [.ref k1, .ref k2, .int (nI kg2), .int (nI kg2)])), (k1, .inl (cL, 815, .inr (.inl ky2))), (k2, .inl (cL, 815, .inr (.inl kn2))), (q0, .inr (6, [.ref n0, .ref f0, .ref w0, .ref k0, .ref s0, .int (nI qu)])), (f0, .inr (2, [.int (nI pfc), .ref f1, .ref f2, .ref f3, .ref f4, .ref f5, .int (nI pfe), .ref f6, .ref f7, .ref f8, .ref f9, .ref f10, .int pfu, .int pfw])), (f1, .inl (cI, 60, .inl fpl)), (f2, .inl (cI, 60, .inl fmk)), (f8, .inl (cI, 30, .inl fca))] H24 := hPn
            replace hD : va_D A [(f3, .inl (cI, 60, .inl ftk)), (k0, .inr (7, [.ref k1, .ref k2, .int (nI kg2), .int (nI kg2)])), (k1, .inl (cL, 815, .inr (.inl ky2))), (k2, .inl (cL, 815, .inr (.inl kn2))), (q0, .inr (6, [.ref n0, .ref f0, .ref w0, .ref k0, .ref s0, .int (nI qu)])), (f0, .inr (2, [.int (nI pfc), .ref f1, .ref f2, .ref f3, .ref f4, .ref f5, .int (nI pfe), .ref f6, .ref f7, .ref f8, .ref f9, .ref f10, .int pfu, .int pfw])), (f1, .inl (cI, 60, .inl fpl)), (f2, .inl (cI, 60, .inl fmk)), (f8, .inl (cI, 30, .inl fca))] := hDn
            replace hS := hSn
            clear hPn hDn hSn
            clear hPc hDc hFc hP1 hD1 hk1 hz1 ht9 hvm
            refine W.cs (cells' := 0) (slots' := 0) rfl rfl ?_
            have hr27 := hw25
            refine lv_lconst (v := 1) hx hb d_Qu_describeCondition_107 (by decide) ?_
            refine lv_iload hx hb d_Qu_describeCondition_108 (lv_at hl 5 rfl) ?_
            refine lv_lshl (v := 1 <<< (Int32.toInt64 (nI i) &&& 63)) hx hb d_Qu_describeCondition_110 rfl ?_
            refine lv_iload_n hx hb d_Qu_describeCondition_111 rfl (lv_at hl 2 rfl) ?_
            have hPc : va_P (dC, dI) clA [] _ := pu_P (H := H24)
            have hDc : va_D (fun _ => True) [] := pu_D
            have hFc := pu_free hS hA
            refine va_calll (va_runS (As := [.int (nI pp)]) (rest := [.long (1 <<< (Int32.toInt64 (nI i) &&& 63)), .long r26, .ref k0]) ⟨hx, hb, hml, hown, ht⟩ (c_Qu_placeBit l dC dI cI cL cZ _ pp (by first | assumption | omega | trivial | exact AllLt.zero | exact AllN.zero | exact AllM.zero | exact Or.inl rfl | exact Or.inr rfl)) (va_cwS 1 ht (good_S wd_3_133 wd_3_134 wd_1_7 wd_3_135) rfl rfl rfl (by decide +kernel) ⟨Nat.le_of_ble_eq_true rfl, Nat.le_of_ble_eq_true rfl⟩) ⟨fun a U g mk q => by obtain ⟨q0, q1, qP, qK, qD, qN⟩ := q; exact ⟨q0, q1, qP, va_K.moved (u := U) (U := U.calling g mk a) (Vm.Alike.refl U.vm) qK, qD, NwA.same (u := U) rfl qN⟩, fun U hU hW => ⟨rfl, by rw [hU], by rw [hU]; exact hPc, va_K.moved hW.alike hK, hDc.weaken (fun _ _ _ _ => trivial), NwA.warm hW hN⟩⟩ rfl rfl hl.1 rfl (lv_room (Nat.le_of_ble_eq_true rfl)) d_Qu_describeCondition_112 ⟨Nat.le_of_ble_eq_true rfl, Nat.le_of_ble_eq_true rfl⟩) hS (fun q _ h => hFc q h) hFc (fun r30 u9 t9 H28 locs ht9 hvm hw29 hB hz1 hk1 hSn => ?_)
            replace hP : va_P (dC, dI) clA [(f3, .inl (cI, 60, .inl ftk)), (k0, .inr (7, [.ref k1, .ref k2, .int (nI kg2), .int (nI kg2)])), (k1, .inl (cL, 815, .inr (.inl ky2))), (k2, .inl (cL, 815, .inr (.inl kn2))), (q0, .inr (6, [.ref n0, .ref f0, .ref w0, .ref k0, .ref s0, .int (nI qu)])), (f0, .inr (2, [.int (nI pfc), .ref f1, .ref f2, .ref f3, .ref f4, .ref f5, .int (nI pfe), .ref f6, .ref f7, .ref f8, .ref f9, .ref f10, .int pfu, .int pfw])), (f1, .inl (cI, 60, .inl fpl)), (f2, .inl (cI, 60, .inl fmk)), (f8, .inl (cI, 30, .inl fca))] H28 := pu_keep hP hk1
            replace hS := hSn
            clear hSn hPc hDc hFc hk1 hz1 ht9 hvm hB
            refine W.cs (cells' := 0) (slots' := 0) rfl rfl ?_
            have hr31 := hw29
            refine lv_lor hx hb d_Qu_describeCondition_115 ?_
            have hPc := hP.sub (ws' := [(k0, .inr (7, [.ref k1, .ref k2, .int (nI kg2), .int (nI kg2)])), (k1, .inl (cL, 815, .inr (.inl ky2))), (k2, .inl (cL, 815, .inr (.inl kn2)))]) [1, 2, 3] rfl
            have hDc := hD.sub (ws' := [(k0, .inr (7, [.ref k1, .ref k2, .int (nI kg2), .int (nI kg2)])), (k1, .inl (cL, 815, .inr (.inl ky2))), (k2, .inl (cL, 815, .inr (.inl kn2)))]) [1, 2, 3] (by decide) rfl
            have hFc := va_free (wc := [(k0, .inr (7, [.ref k1, .ref k2, .int (nI kg2), .int (nI kg2)])), (k1, .inl (cL, 815, .inr (.inl ky2))), (k2, .inl (cL, 815, .inr (.inl kn2)))]) hD hS hA [1, 2, 3] rfl
            refine va_callv (va_runV (C := "NetUnfolder$Clauses") (As := [.long r26, .long ((1 <<< (Int32.toInt64 (nI i) &&& 63)) ||| r30)]) (rest := []) ⟨hx, hb, hml, hown, ht⟩ (c_Cs_give l dC dI cI cL cZ _ k0 k1 k2 kg2 ky2 kn2 r26 ((1 <<< (Int32.toInt64 (nI i) &&& 63)) ||| r30) (by first | assumption | omega | trivial | exact AllLt.zero | exact AllN.zero | exact AllM.zero | exact Or.inl rfl | exact Or.inr rfl) (by first | assumption | omega | trivial | exact AllLt.zero | exact AllN.zero | exact AllM.zero | exact Or.inl rfl | exact Or.inr rfl) (by first | assumption | omega | trivial | exact AllLt.zero | exact AllN.zero | exact AllM.zero | exact Or.inl rfl | exact Or.inr rfl) (by repeat (first | with_reducible assumption | with_reducible exact M38.zero | with_reducible exact M38.all | with_reducible apply M38.or | (with_reducible apply M38.bit; omega) | (with_reducible apply M38.andI; omega) | (with_reducible apply M38.ofI; omega))) (by repeat (first | with_reducible assumption | with_reducible exact M38.zero | with_reducible exact M38.all | with_reducible apply M38.or | (with_reducible apply M38.bit; omega) | (with_reducible apply M38.andI; omega) | (with_reducible apply M38.ofI; omega)))) (cwV 2 ht (good_V wd_3_125 wd_3_126 wd_3_127 wd_1_8 wd_3_128) rfl rfl rfl (by decide +kernel) ⟨Nat.le_of_ble_eq_true rfl, Nat.le_of_ble_eq_true rfl⟩) ⟨fun a U g mk q => by obtain ⟨q0, q1, qP, qK, qD, qN⟩ := q; exact ⟨q0, q1, qP, va_K.moved (u := U) (U := U.calling g mk a) (Vm.Alike.refl U.vm) qK, qD, NwA.same (u := U) rfl qN⟩, (va_recv (q0 := 1) (ci := 7) hK hP rfl rfl), fun U hU hW => ⟨rfl, by rw [hU], by rw [hU]; exact hPc, va_K.moved hW.alike hK, hDc.weaken (fun _ _ _ _ => trivial), NwA.warm hW hN⟩⟩ rfl rfl hl.1 rfl (lv_room (Nat.le_of_ble_eq_true rfl)) d_Qu_describeCondition_116 ⟨Nat.le_of_ble_eq_true rfl, Nat.le_of_ble_eq_true rfl⟩) hS (fun q _ h => hFc q h) hFc (fun u9 t9 H32 locs ht9 hvm hw33 hB hz1 hk1 hSn => ?_)
            obtain ⟨kg135, ky136, kn137, hf38, hf39, hf40, hP1, hD1⟩ := hB
            rw [ht9] at hP1
            obtain ⟨hPn, hDn⟩ := va_join (wr := [(f3, .inl (cI, 60, .inl ftk)), (q0, .inr (6, [.ref n0, .ref f0, .ref w0, .ref k0, .ref s0, .int (nI qu)])), (f0, .inr (2, [.int (nI pfc), .ref f1, .ref f2, .ref f3, .ref f4, .ref f5, .int (nI pfe), .ref f6, .ref f7, .ref f8, .ref f9, .ref f10, .int pfu, .int pfw])), (f1, .inl (cI, 60, .inl fpl)), (f2, .inl (cI, 60, .inl fmk)), (f8, .inl (cI, 30, .inl fca))]) (w1 := [(k0, .inr (7, [.ref k1, .ref k2, .int (nI kg135), .int (nI kg135)])), (k1, .inl (cL, 815, .inr (.inl ky136))), (k2, .inl (cL, 815, .inr (.inl kn137)))]) hP hD [1, 2, 3] [0, 4, 5, 6, 7, 8] rfl rfl (by decide) (by decide) hk1 hFc hP1 hD1
            replace hP : va_P (dC, dI) clA [(f3, .inl (cI, 60, .inl ftk)), (q0, .inr (6, [.ref n0, .ref f0, .ref w0, .ref k0, .ref s0, .int (nI qu)])), (f0, .inr (2, [.int (nI pfc), .ref f1, .ref f2, .ref f3, .ref f4, .ref f5, .int (nI pfe), .ref f6, .ref f7, .ref f8, .ref f9, .ref f10, .int pfu, .int pfw])), (f1, .inl (cI, 60, .inl fpl)), (f2, .inl (cI, 60, .inl fmk)), (f8, .inl (cI, 30, .inl fca)), (k0, .inr (7, [.ref k1, .ref k2, .int (nI kg135), .int (nI kg135)])), (k1, .inl (cL, 815, .inr (.inl ky136))), (k2, .inl (cL, 815, .inr (.inl kn137)))] H32 := hPn
            replace hD : va_D A [(f3, .inl (cI, 60, .inl ftk)), (q0, .inr (6, [.ref n0, .ref f0, .ref w0, .ref k0, .ref s0, .int (nI qu)])), (f0, .inr (2, [.int (nI pfc), .ref f1, .ref f2, .ref f3, .ref f4, .ref f5, .int (nI pfe), .ref f6, .ref f7, .ref f8, .ref f9, .ref f10, .int pfu, .int pfw])), (f1, .inl (cI, 60, .inl fpl)), (f2, .inl (cI, 60, .inl fmk)), (f8, .inl (cI, 30, .inl fca)), (k0, .inr (7, [.ref k1, .ref k2, .int (nI kg135), .int (nI kg135)])), (k1, .inl (cL, 815, .inr (.inl ky136))), (k2, .inl (cL, 815, .inr (.inl kn137)))] := hDn
            replace hS := hSn
            clear hPn hDn hSn
            clear hPc hDc hFc hP1 hD1 hk1 hz1 ht9 hvm
            refine W.cs (cells' := 0) (slots' := 0) rfl rfl ?_
            refine lv_iinc (k := 5) (v := nI (i + 1)) (lv' := [(6, .int (nI (i + 1))), (0, .ref q0), (1, .int (nI k)), (2, .int (nI pp)), (3, .int x3), (4, .long x4)]) hx hb d_Qu_describeCondition_119 hl rfl (nI_1 _) (by decide) rfl (fun ls hln => ?_)
            replace hl : lv_has ls 7 [(6, .int (nI (i + 1))), (0, .ref q0), (1, .int (nI k)), (2, .int (nI pp)), (3, .int x3), (4, .long x4)] := hln
            clear hln
            refine lv_goto (tgt := 74) hx hb d_Qu_describeCondition_122 (by decide) ?_
            exact hloop18_ih (i + 1) x3 x4 kg135 ky136 kn137 (by first | assumption | omega | trivial | exact AllLt.zero | exact AllN.zero | exact AllM.zero | exact Or.inl rfl | exact Or.inr rfl) (by first | assumption | omega | trivial | exact AllLt.zero | exact AllN.zero | exact AllM.zero | exact Or.inl rfl | exact Or.inr rfl) (by first | assumption | omega | trivial | exact AllLt.zero | exact AllN.zero | exact AllM.zero | exact Or.inl rfl | exact Or.inr rfl) (by first | assumption | omega | trivial | exact AllLt.zero | exact AllN.zero | exact AllM.zero | exact Or.inl rfl | exact Or.inr rfl) _ _ ls (lv_sub hl [1, 2, 3, 4, 5, 0] rfl) (hP.sub [1, 2, 3, 4, 0, 5, 6, 7, 8] rfl) (hD.sub [1, 2, 3, 4, 0, 5, 6, 7, 8] (by decide) rfl) hS (by omega)
    exact hloop18 ((pfe - 0) + 1) 0 ((ftk k) &&& (nI qu)) (1 <<< (Int32.toInt64 (nI q2) &&& 63)) kg112 ky113 kn114 (by first | assumption | omega | trivial | exact AllLt.zero | exact AllN.zero | exact AllM.zero | exact Or.inl rfl | exact Or.inr rfl) (by first | assumption | omega | trivial | exact AllLt.zero | exact AllN.zero | exact AllM.zero | exact Or.inl rfl | exact Or.inr rfl) (by first | assumption | omega | trivial | exact AllLt.zero | exact AllN.zero | exact AllM.zero | exact Or.inl rfl | exact Or.inr rfl) (by first | assumption | omega | trivial | exact AllLt.zero | exact AllN.zero | exact AllM.zero | exact Or.inl rfl | exact Or.inr rfl) _ _ ls (lv_sub hl [4, 5, 3, 2, 1, 0] rfl) hP hD hS (Nat.lt_succ_self _)
  · skip
    refine lv_lconst (v := 0) hx hb d_Qu_describeCondition_38 (by decide) ?_
    refine lv_goto (tgt := 53) hx hb d_Qu_describeCondition_39 (by decide) ?_
    refine lv_lstore (lv' := [(4, .long 0), (3, .int ((ftk k) &&& (nI qu))), (2, .int (nI pp)), (0, .ref q0), (1, .int (nI k))]) hx hb d_Qu_describeCondition_53 hl (by decide) rfl (fun ls hln => ?_)
    replace hl : lv_has ls 7 [(4, .long 0), (3, .int ((ftk k) &&& (nI qu))), (2, .int (nI pp)), (0, .ref q0), (1, .int (nI k))] := hln
    clear hln
    refine lv_aload_n hx hb d_Qu_describeCondition_55 rfl (lv_at hl 3 rfl) ?_
    refine va_get (D := (dC, dI)) (ci := 6) (v := .ref k0) (C := "NetUnfolder$Question") (T := T_Qu) (N := 6) hx hb ht in_Qu hown hK hP 0 rfl rfl 3 (by decide) (ht _ wd_2_20) (fun _ h9 => h9) rfl d_Qu_describeCondition_56 ?_
    refine lv_iload_n hx hb d_Qu_describeCondition_59 rfl (lv_at hl 1 rfl) ?_
    refine lv_i2l (v := Int32.toInt64 ((ftk k) &&& (nI qu))) hx hb d_Qu_describeCondition_60 rfl ?_
    refine lv_iload_n hx hb d_Qu_describeCondition_61 rfl (lv_at hl 2 rfl) ?_
    have hPc : va_P (dC, dI) clA [] _ := pu_P (H := s.heap)
    have hDc : va_D (fun _ => True) [] := pu_D
    have hFc := pu_free hS hA
    refine va_calll (va_runS (As := [.int (nI pp)]) (rest := [.long (Int32.toInt64 ((ftk k) &&& (nI qu))), .ref k0]) ⟨hx, hb, hml, hown, ht⟩ (c_Qu_placeBit l dC dI cI cL cZ _ pp (by first | assumption | omega | trivial | exact AllLt.zero | exact AllN.zero | exact AllM.zero | exact Or.inl rfl | exact Or.inr rfl)) (va_cwS 1 ht (good_S wd_3_133 wd_3_134 wd_1_7 wd_3_135) rfl rfl rfl (by decide +kernel) ⟨Nat.le_of_ble_eq_true rfl, Nat.le_of_ble_eq_true rfl⟩) ⟨fun a U g mk q => by obtain ⟨q0, q1, qP, qK, qD, qN⟩ := q; exact ⟨q0, q1, qP, va_K.moved (u := U) (U := U.calling g mk a) (Vm.Alike.refl U.vm) qK, qD, NwA.same (u := U) rfl qN⟩, fun U hU hW => ⟨rfl, by rw [hU], by rw [hU]; exact hPc, va_K.moved hW.alike hK, hDc.weaken (fun _ _ _ _ => trivial), NwA.warm hW hN⟩⟩ rfl rfl hl.1 rfl (lv_room (Nat.le_of_ble_eq_true rfl)) d_Qu_describeCondition_62 ⟨Nat.le_of_ble_eq_true rfl, Nat.le_of_ble_eq_true rfl⟩) hS (fun q _ h => hFc q h) hFc (fun r43 u9 t9 H41 locs ht9 hvm hw42 hB hz1 hk1 hSn => ?_)
    replace hP : va_P (dC, dI) clA [(q0, .inr (6, [.ref n0, .ref f0, .ref w0, .ref k0, .ref s0, .int (nI qu)])), (f0, .inr (2, [.int (nI pfc), .ref f1, .ref f2, .ref f3, .ref f4, .ref f5, .int (nI pfe), .ref f6, .ref f7, .ref f8, .ref f9, .ref f10, .int pfu, .int pfw])), (f1, .inl (cI, 60, .inl fpl)), (f2, .inl (cI, 60, .inl fmk)), (f3, .inl (cI, 60, .inl ftk)), (f8, .inl (cI, 30, .inl fca)), (k0, .inr (7, [.ref k1, .ref k2, .int (nI kg), .int (nI kg)])), (k1, .inl (cL, 815, .inr (.inl ky))), (k2, .inl (cL, 815, .inr (.inl kn)))] H41 := pu_keep hP hk1
    replace hS := hSn
    clear hSn hPc hDc hFc hk1 hz1 ht9 hvm hB
    refine W.cs (cells' := 0) (slots' := 0) rfl rfl ?_
    have hr44 := hw42
    refine lv_lor hx hb d_Qu_describeCondition_65 ?_
    refine lv_lload hx hb d_Qu_describeCondition_66 (lv_at hl 0 rfl) ?_
    have hPc := hP.sub (ws' := [(k0, .inr (7, [.ref k1, .ref k2, .int (nI kg), .int (nI kg)])), (k1, .inl (cL, 815, .inr (.inl ky))), (k2, .inl (cL, 815, .inr (.inl kn)))]) [6, 7, 8] rfl
    have hDc := hD.sub (ws' := [(k0, .inr (7, [.ref k1, .ref k2, .int (nI kg), .int (nI kg)])), (k1, .inl (cL, 815, .inr (.inl ky))), (k2, .inl (cL, 815, .inr (.inl kn)))]) [6, 7, 8] (by decide) rfl
    have hFc := va_free (wc := [(k0, .inr (7, [.ref k1, .ref k2, .int (nI kg), .int (nI kg)])), (k1, .inl (cL, 815, .inr (.inl ky))), (k2, .inl (cL, 815, .inr (.inl kn)))]) hD hS hA [6, 7, 8] rfl
    refine va_callv (va_runV (C := "NetUnfolder$Clauses") (As := [.long ((Int32.toInt64 ((ftk k) &&& (nI qu))) ||| r43), .long 0]) (rest := []) ⟨hx, hb, hml, hown, ht⟩ (c_Cs_give l dC dI cI cL cZ _ k0 k1 k2 kg ky kn ((Int32.toInt64 ((ftk k) &&& (nI qu))) ||| r43) 0 (by first | assumption | omega | trivial | exact AllLt.zero | exact AllN.zero | exact AllM.zero | exact Or.inl rfl | exact Or.inr rfl) (by first | assumption | omega | trivial | exact AllLt.zero | exact AllN.zero | exact AllM.zero | exact Or.inl rfl | exact Or.inr rfl) (by first | assumption | omega | trivial | exact AllLt.zero | exact AllN.zero | exact AllM.zero | exact Or.inl rfl | exact Or.inr rfl) (by repeat (first | with_reducible assumption | with_reducible exact M38.zero | with_reducible exact M38.all | with_reducible apply M38.or | (with_reducible apply M38.bit; omega) | (with_reducible apply M38.andI; omega) | (with_reducible apply M38.ofI; omega))) (by repeat (first | with_reducible assumption | with_reducible exact M38.zero | with_reducible exact M38.all | with_reducible apply M38.or | (with_reducible apply M38.bit; omega) | (with_reducible apply M38.andI; omega) | (with_reducible apply M38.ofI; omega)))) (cwV 2 ht (good_V wd_3_125 wd_3_126 wd_3_127 wd_1_8 wd_3_128) rfl rfl rfl (by decide +kernel) ⟨Nat.le_of_ble_eq_true rfl, Nat.le_of_ble_eq_true rfl⟩) ⟨fun a U g mk q => by obtain ⟨q0, q1, qP, qK, qD, qN⟩ := q; exact ⟨q0, q1, qP, va_K.moved (u := U) (U := U.calling g mk a) (Vm.Alike.refl U.vm) qK, qD, NwA.same (u := U) rfl qN⟩, (va_recv (q0 := 6) (ci := 7) hK hP rfl rfl), fun U hU hW => ⟨rfl, by rw [hU], by rw [hU]; exact hPc, va_K.moved hW.alike hK, hDc.weaken (fun _ _ _ _ => trivial), NwA.warm hW hN⟩⟩ rfl rfl hl.1 rfl (lv_room (Nat.le_of_ble_eq_true rfl)) d_Qu_describeCondition_68 ⟨Nat.le_of_ble_eq_true rfl, Nat.le_of_ble_eq_true rfl⟩) hS (fun q _ h => hFc q h) hFc (fun u9 t9 H45 locs ht9 hvm hw46 hB hz1 hk1 hSn => ?_)
    obtain ⟨kg148, ky149, kn150, hf51, hf52, hf53, hP1, hD1⟩ := hB
    rw [ht9] at hP1
    obtain ⟨hPn, hDn⟩ := va_join (wr := [(q0, .inr (6, [.ref n0, .ref f0, .ref w0, .ref k0, .ref s0, .int (nI qu)])), (f0, .inr (2, [.int (nI pfc), .ref f1, .ref f2, .ref f3, .ref f4, .ref f5, .int (nI pfe), .ref f6, .ref f7, .ref f8, .ref f9, .ref f10, .int pfu, .int pfw])), (f1, .inl (cI, 60, .inl fpl)), (f2, .inl (cI, 60, .inl fmk)), (f3, .inl (cI, 60, .inl ftk)), (f8, .inl (cI, 30, .inl fca))]) (w1 := [(k0, .inr (7, [.ref k1, .ref k2, .int (nI kg148), .int (nI kg148)])), (k1, .inl (cL, 815, .inr (.inl ky149))), (k2, .inl (cL, 815, .inr (.inl kn150)))]) hP hD [6, 7, 8] [0, 1, 2, 3, 4, 5] rfl rfl (by decide) (by decide) hk1 hFc hP1 hD1
    replace hP : va_P (dC, dI) clA [(q0, .inr (6, [.ref n0, .ref f0, .ref w0, .ref k0, .ref s0, .int (nI qu)])), (f0, .inr (2, [.int (nI pfc), .ref f1, .ref f2, .ref f3, .ref f4, .ref f5, .int (nI pfe), .ref f6, .ref f7, .ref f8, .ref f9, .ref f10, .int pfu, .int pfw])), (f1, .inl (cI, 60, .inl fpl)), (f2, .inl (cI, 60, .inl fmk)), (f3, .inl (cI, 60, .inl ftk)), (f8, .inl (cI, 30, .inl fca)), (k0, .inr (7, [.ref k1, .ref k2, .int (nI kg148), .int (nI kg148)])), (k1, .inl (cL, 815, .inr (.inl ky149))), (k2, .inl (cL, 815, .inr (.inl kn150)))] H45 := hPn
    replace hD : va_D A [(q0, .inr (6, [.ref n0, .ref f0, .ref w0, .ref k0, .ref s0, .int (nI qu)])), (f0, .inr (2, [.int (nI pfc), .ref f1, .ref f2, .ref f3, .ref f4, .ref f5, .int (nI pfe), .ref f6, .ref f7, .ref f8, .ref f9, .ref f10, .int pfu, .int pfw])), (f1, .inl (cI, 60, .inl fpl)), (f2, .inl (cI, 60, .inl fmk)), (f3, .inl (cI, 60, .inl ftk)), (f8, .inl (cI, 30, .inl fca)), (k0, .inr (7, [.ref k1, .ref k2, .int (nI kg148), .int (nI kg148)])), (k1, .inl (cL, 815, .inr (.inl ky149))), (k2, .inl (cL, 815, .inr (.inl kn150)))] := hDn
    replace hS := hSn
    clear hPn hDn hSn
    clear hPc hDc hFc hP1 hD1 hk1 hz1 ht9 hvm
    refine W.cs (cells' := 0) (slots' := 0) rfl rfl ?_
    refine lv_iconst (v := 0) hx hb d_Qu_describeCondition_71 (by decide) ?_
    refine lv_istore (lv' := [(6, .int 0), (4, .long 0), (3, .int ((ftk k) &&& (nI qu))), (2, .int (nI pp)), (0, .ref q0), (1, .int (nI k))]) hx hb d_Qu_describeCondition_72 hl (by decide) rfl (fun ls hln => ?_)
    replace hl : lv_has ls 7 [(6, .int 0), (4, .long 0), (3, .int ((ftk k) &&& (nI qu))), (2, .int (nI pp)), (0, .ref q0), (1, .int (nI k))] := hln
    clear hln
    have hloop54 : ∀ (n74 : Nat) (i : Nat) (x3 : Int32) (x4 : Int64) (kg2 : Nat) (ky2 : Nat → Int64) (kn2 : Nat → Int64) (hi : i ≤ pfe) (hkg2 : kg2 ≤ 751) (hky2 : AllM ky2 815) (hkn2 : AllM kn2 815) (H : Heap) (locs : List Loc) (ls : Array Slot) (hl : lv_has ls 7 [(0, .ref q0), (1, .int (nI k)), (2, .int (nI pp)), (3, .int x3), (4, .long x4), (6, .int (nI i))]) (hP : va_P (dC, dI) clA [(q0, .inr (6, [.ref n0, .ref f0, .ref w0, .ref k0, .ref s0, .int (nI qu)])), (f0, .inr (2, [.int (nI pfc), .ref f1, .ref f2, .ref f3, .ref f4, .ref f5, .int (nI pfe), .ref f6, .ref f7, .ref f8, .ref f9, .ref f10, .int pfu, .int pfw])), (f1, .inl (cI, 60, .inl fpl)), (f2, .inl (cI, 60, .inl fmk)), (f3, .inl (cI, 60, .inl ftk)), (f8, .inl (cI, 30, .inl fca)), (k0, .inr (7, [.ref k1, .ref k2, .int (nI kg2), .int (nI kg2)])), (k1, .inl (cL, 815, .inr (.inl ky2))), (k2, .inl (cL, 815, .inr (.inl kn2)))] H) (hD : va_D A [(q0, .inr (6, [.ref n0, .ref f0, .ref w0, .ref k0, .ref s0, .int (nI qu)])), (f0, .inr (2, [.int (nI pfc), .ref f1, .ref f2, .ref f3, .ref f4, .ref f5, .int (nI pfe), .ref f6, .ref f7, .ref f8, .ref f9, .ref f10, .int pfu, .int pfw])), (f1, .inl (cI, 60, .inl fpl)), (f2, .inl (cI, 60, .inl fmk)), (f3, .inl (cI, 60, .inl ftk)), (f8, .inl (cI, 30, .inl fca)), (k0, .inr (7, [.ref k1, .ref k2, .int (nI kg2), .int (nI kg2)])), (k1, .inl (cL, 815, .inr (.inl ky2))), (k2, .inl (cL, 815, .inr (.inl kn2)))]) (hS : va_S A s.heap H locs) (hm74 : pfe - i < n74), W p l e (headSpec (Cond.code y_Qu_describeCondition prog_6_method_8_code 7 none :: wsA) { frames := 2, cells := 0, slots := 0, locals := 48 }).room s m ([.ref q0, .int (nI k)] : List Value).toArray below meth c H locs 0 0 Q (F0 m 74 ls []) := by
      clear hl hP hD hS
      intro n74
      induction n74 with
      | zero => intro i x3 x4 kg2 ky2 kn2 hi hkg2 hky2 hkn2 H locs ls hl hP hD hS hm; exact absurd hm (Nat.not_lt_zero _)
      | succ n74 hloop54_ih =>
        intro i x3 x4 kg2 ky2 kn2 hi hkg2 hky2 hkn2 H locs ls hl hP hD hS hm74
        refine lv_iload hx hb d_Qu_describeCondition_74 (lv_at hl 5 rfl) ?_
        refine lv_aload_n hx hb d_Qu_describeCondition_76 rfl (lv_at hl 0 rfl) ?_
        refine va_get (D := (dC, dI)) (ci := 6) (v := .ref f0) (C := "NetUnfolder$Question") (T := T_Qu) (N := 6) hx hb ht in_Qu hown hK hP 0 rfl rfl 1 (by decide) (ht _ wd_2_18) (fun _ h9 => h9) rfl d_Qu_describeCondition_77 ?_
        refine va_get (D := (dC, dI)) (ci := 2) (v := .int (nI pfe)) (C := "NetUnfolder$Prefix") (T := T_Pf) (N := 14) hx hb ht in_Pf hown hK hP 1 rfl rfl 6 (by decide) (ht _ wd_1_84) (fun _ h9 => h9) rfl d_Qu_describeCondition_80 ?_
        refine lv_icmp_ge (tgt := 125) hx hb d_Qu_describeCondition_83 (by decide) (fun hb55 => ?_) (fun hb55 => ?_)
        · skip
          replace hb55 := cv_le (a := pfe) (b := i) (by omega) (by omega) hb55
          have hP9 := hP.sub (ws' := [(q0, .inr (6, [.ref n0, .ref f0, .ref w0, .ref k0, .ref s0, .int (nI qu)])), (f0, .inr (2, [.int (nI pfc), .ref f1, .ref f2, .ref f3, .ref f4, .ref f5, .int (nI pfe), .ref f6, .ref f7, .ref f8, .ref f9, .ref f10, .int pfu, .int pfw])), (f1, .inl (cI, 60, .inl fpl)), (f2, .inl (cI, 60, .inl fmk)), (f3, .inl (cI, 60, .inl ftk)), (f8, .inl (cI, 30, .inl fca)), (k0, .inr (7, [.ref k1, .ref k2, .int (nI kg2), .int (nI kg2)])), (k1, .inl (cL, 815, .inr (.inl ky2))), (k2, .inl (cL, 815, .inr (.inl kn2)))]) [0, 1, 2, 3, 4, 5, 6, 7, 8] rfl
          have hD9 := hD.sub (ws' := [(q0, .inr (6, [.ref n0, .ref f0, .ref w0, .ref k0, .ref s0, .int (nI qu)])), (f0, .inr (2, [.int (nI pfc), .ref f1, .ref f2, .ref f3, .ref f4, .ref f5, .int (nI pfe), .ref f6, .ref f7, .ref f8, .ref f9, .ref f10, .int pfu, .int pfw])), (f1, .inl (cI, 60, .inl fpl)), (f2, .inl (cI, 60, .inl fmk)), (f3, .inl (cI, 60, .inl ftk)), (f8, .inl (cI, 30, .inl fca)), (k0, .inr (7, [.ref k1, .ref k2, .int (nI kg2), .int (nI kg2)])), (k1, .inl (cL, 815, .inr (.inl ky2))), (k2, .inl (cL, 815, .inr (.inl kn2)))]) [0, 1, 2, 3, 4, 5, 6, 7, 8] (by decide) rfl
          subst hQ
          exact W.vret hx hb hr (fun t9 ht9 hW => ⟨⟨(), rfl, trivial, kg2, ky2, kn2, (by first | assumption | omega | trivial | exact AllLt.zero | exact AllN.zero | exact AllM.zero | exact Or.inl rfl | exact Or.inr rfl), (by first | assumption | omega | trivial | exact AllLt.zero | exact AllN.zero | exact AllM.zero | exact Or.inl rfl | exact Or.inr rfl), (by first | assumption | omega | trivial | exact AllLt.zero | exact AllN.zero | exact AllM.zero | exact Or.inl rfl | exact Or.inr rfl), by rw [ht9]; exact hP9, hD9⟩, hS.F ht9⟩) hS.2.2 d_Qu_describeCondition_125
        · skip
          replace hb55 := cv_nle (a := pfe) (b := i) (by omega) (by omega) hb55
          refine lv_iload_n hx hb d_Qu_describeCondition_86 rfl (lv_at hl 3 rfl) ?_
          refine lv_i2l (v := Int32.toInt64 x3) hx hb d_Qu_describeCondition_87 rfl ?_
          refine lv_iload hx hb d_Qu_describeCondition_88 (lv_at hl 5 rfl) ?_
          have hPc : va_P (dC, dI) clA [] _ := pu_P (H := H)
          have hDc : va_D (fun _ => True) [] := pu_D
          have hFc := pu_free hS hA
          refine va_calli (va_runSN (As := [.long (Int32.toInt64 x3), .int (nI i)]) (rest := []) ⟨hx, hb, hml, hown, ht⟩ (c_NU_has l dC dI cI cL cZ _ (Int32.toInt64 x3) i (by first | assumption | omega | trivial | exact AllLt.zero | exact AllN.zero | exact AllM.zero | exact Or.inl rfl | exact Or.inr rfl)) ⟨va_cnB 2 ht (goodA wd_2_102) rfl rfl rfl hN.2.2.2.2.2.2.2.1 (ht _ wd_1_1) (by decide +kernel) ⟨Nat.le_of_ble_eq_true rfl, Nat.le_of_ble_eq_true rfl⟩, ht _ wd_2_101, trivial⟩ ⟨fun a U g mk q => by obtain ⟨q0, q1, qP, qK, qD, qN⟩ := q; exact ⟨q0, q1, qP, va_K.moved (u := U) (U := U.calling g mk a) (Vm.Alike.refl U.vm) qK, qD, NwA.same (u := U) rfl qN⟩, fun U hU hW => ⟨rfl, by rw [hU], by rw [hU]; exact hPc, va_K.moved hW.alike hK, hDc.weaken (fun _ _ _ _ => trivial), NwA.warm hW hN⟩⟩ rfl rfl hl.1 rfl (lv_room (Nat.le_of_ble_eq_true rfl)) d_Qu_describeCondition_90 ⟨Nat.le_of_ble_eq_true rfl, Nat.le_of_ble_eq_true rfl⟩) hS (fun q _ h => hFc q h) hFc (fun r58 u9 t9 H56 locs ht9 hvm hw57 hB hz1 hk1 hSn => ?_)
          replace hP : va_P (dC, dI) clA [(q0, .inr (6, [.ref n0, .ref f0, .ref w0, .ref k0, .ref s0, .int (nI qu)])), (f0, .inr (2, [.int (nI pfc), .ref f1, .ref f2, .ref f3, .ref f4, .ref f5, .int (nI pfe), .ref f6, .ref f7, .ref f8, .ref f9, .ref f10, .int pfu, .int pfw])), (f1, .inl (cI, 60, .inl fpl)), (f2, .inl (cI, 60, .inl fmk)), (f3, .inl (cI, 60, .inl ftk)), (f8, .inl (cI, 30, .inl fca)), (k0, .inr (7, [.ref k1, .ref k2, .int (nI kg2), .int (nI kg2)])), (k1, .inl (cL, 815, .inr (.inl ky2))), (k2, .inl (cL, 815, .inr (.inl kn2)))] H56 := pu_keep hP hk1
          replace hS := hSn
          clear hSn hPc hDc hFc hk1 hz1 ht9 hvm hB
          refine W.cs (cells' := 0) (slots' := 0) rfl rfl ?_
          subst hw57
          refine lv_if_eq (tgt := 119) hx hb d_Qu_describeCondition_93 (by decide) (fun hb59 => ?_) (fun hb59 => ?_)
          · skip
            refine lv_iinc (k := 5) (v := nI (i + 1)) (lv' := [(6, .int (nI (i + 1))), (0, .ref q0), (1, .int (nI k)), (2, .int (nI pp)), (3, .int x3), (4, .long x4)]) hx hb d_Qu_describeCondition_119 hl rfl (nI_1 _) (by decide) rfl (fun ls hln => ?_)
            replace hl : lv_has ls 7 [(6, .int (nI (i + 1))), (0, .ref q0), (1, .int (nI k)), (2, .int (nI pp)), (3, .int x3), (4, .long x4)] := hln
            clear hln
            refine lv_goto (tgt := 74) hx hb d_Qu_describeCondition_122 (by decide) ?_
            exact hloop54_ih (i + 1) x3 x4 kg2 ky2 kn2 (by first | assumption | omega | trivial | exact AllLt.zero | exact AllN.zero | exact AllM.zero | exact Or.inl rfl | exact Or.inr rfl) (by first | assumption | omega | trivial | exact AllLt.zero | exact AllN.zero | exact AllM.zero | exact Or.inl rfl | exact Or.inr rfl) (by first | assumption | omega | trivial | exact AllLt.zero | exact AllN.zero | exact AllM.zero | exact Or.inl rfl | exact Or.inr rfl) (by first | assumption | omega | trivial | exact AllLt.zero | exact AllN.zero | exact AllM.zero | exact Or.inl rfl | exact Or.inr rfl) _ _ ls (lv_sub hl [1, 2, 3, 4, 5, 0] rfl) (hP.sub [0, 1, 2, 3, 4, 5, 6, 7, 8] rfl) (hD.sub [0, 1, 2, 3, 4, 5, 6, 7, 8] (by decide) rfl) hS (by omega)
          · skip
            refine lv_aload_n hx hb d_Qu_describeCondition_96 rfl (lv_at hl 0 rfl) ?_
            refine va_get (D := (dC, dI)) (ci := 6) (v := .ref k0) (C := "NetUnfolder$Question") (T := T_Qu) (N := 6) hx hb ht in_Qu hown hK hP 0 rfl rfl 3 (by decide) (ht _ wd_2_20) (fun _ h9 => h9) rfl d_Qu_describeCondition_97 ?_
            refine lv_aload_n hx hb d_Qu_describeCondition_100 rfl (lv_at hl 0 rfl) ?_
            refine lv_iload_n hx hb d_Qu_describeCondition_101 rfl (lv_at hl 2 rfl) ?_
            refine lv_iload hx hb d_Qu_describeCondition_102 (lv_at hl 5 rfl) ?_
            have hPc := hP.sub (ws' := [(q0, .inr (6, [.ref n0, .ref f0, .ref w0, .ref k0, .ref s0, .int (nI qu)])), (f0, .inr (2, [.int (nI pfc), .ref f1, .ref f2, .ref f3, .ref f4, .ref f5, .int (nI pfe), .ref f6, .ref f7, .ref f8, .ref f9, .ref f10, .int pfu, .int pfw])), (f1, .inl (cI, 60, .inl fpl)), (f2, .inl (cI, 60, .inl fmk)), (f8, .inl (cI, 30, .inl fca))]) [0, 1, 2, 3, 5] rfl
            have hDc := hD.sub (ws' := [(q0, .inr (6, [.ref n0, .ref f0, .ref w0, .ref k0, .ref s0, .int (nI qu)])), (f0, .inr (2, [.int (nI pfc), .ref f1, .ref f2, .ref f3, .ref f4, .ref f5, .int (nI pfe), .ref f6, .ref f7, .ref f8, .ref f9, .ref f10, .int pfu, .int pfw])), (f1, .inl (cI, 60, .inl fpl)), (f2, .inl (cI, 60, .inl fmk)), (f8, .inl (cI, 30, .inl fca))]) [0, 1, 2, 3, 5] (by decide) rfl
            have hFc := va_free (wc := [(q0, .inr (6, [.ref n0, .ref f0, .ref w0, .ref k0, .ref s0, .int (nI qu)])), (f0, .inr (2, [.int (nI pfc), .ref f1, .ref f2, .ref f3, .ref f4, .ref f5, .int (nI pfe), .ref f6, .ref f7, .ref f8, .ref f9, .ref f10, .int pfu, .int pfw])), (f1, .inl (cI, 60, .inl fpl)), (f2, .inl (cI, 60, .inl fmk)), (f8, .inl (cI, 30, .inl fca))]) hD hS hA [0, 1, 2, 3, 5] rfl
            refine va_calll (va_runV (C := "NetUnfolder$Question") (As := [.int (nI pp), .int (nI i)]) (rest := [.ref k0]) ⟨hx, hb, hml, hown, ht⟩ (c_Qu_makersOf l dC dI cI cL cZ _ q0 s0 qu n0 w0 f0 f1 f2 f3 f4 f5 f6 f7 f8 f9 f10 pfc pfe pfu pfw fpl fmk fca k0 pp (nI i) (by first | assumption | omega | trivial | exact AllLt.zero | exact AllN.zero | exact AllM.zero | exact Or.inl rfl | exact Or.inr rfl) (by first | assumption | omega | trivial | exact AllLt.zero | exact AllN.zero | exact AllM.zero | exact Or.inl rfl | exact Or.inr rfl) (Or.inr ⟨_, by omega, rfl⟩)) (cwV 2 ht (good_V wd_3_136 wd_3_138 ws_Qu_makersOf wd_1_7 wd_3_139) rfl rfl rfl (by decide +kernel) ⟨Nat.le_of_ble_eq_true rfl, Nat.le_of_ble_eq_true rfl⟩) ⟨fun a U g mk q => by obtain ⟨q0, q1, qP, qK, qD, qN⟩ := q; exact ⟨q0, q1, qP, va_K.moved (u := U) (U := U.calling g mk a) (Vm.Alike.refl U.vm) qK, qD, NwA.same (u := U) rfl qN⟩, (va_recv (q0 := 0) (ci := 6) hK hP rfl rfl), fun U hU hW => ⟨rfl, by rw [hU], by rw [hU]; exact hPc, va_K.moved hW.alike hK, hDc.weaken (fun _ _ _ _ => trivial), NwA.warm hW hN⟩⟩ rfl rfl hl.1 rfl (lv_room (Nat.le_of_ble_eq_true rfl)) d_Qu_describeCondition_104 ⟨Nat.le_of_ble_eq_true rfl, Nat.le_of_ble_eq_true rfl⟩) hS (fun q _ h => hFc q h) hFc (fun r62 u9 t9 H60 locs ht9 hvm hw61 hB hz1 hk1 hSn => ?_)
            obtain ⟨hP1, hD1⟩ := hB
            rw [ht9] at hP1
            obtain ⟨hPn, hDn⟩ := va_join (wr := [(f3, .inl (cI, 60, .inl ftk)), (k0, .inr (7, [.ref k1, .ref k2, .int (nI kg2), .int (nI kg2)])), (k1, .inl (cL, 815, .inr (.inl ky2))), (k2, .inl (cL, 815, .inr (.inl kn2)))]) (w1 := [(q0, .inr (6, [.ref n0, .ref f0, .ref w0, .ref k0, .ref s0, .int (nI qu)])), (f0, .inr (2, [.int (nI pfc), .ref f1, .ref f2, .ref f3, .ref f4, .ref f5, .int (nI pfe), .ref f6, .ref f7, .ref f8, .ref f9, .ref f10, .int pfu, .int pfw])), (f1, .inl (cI, 60, .inl fpl)), (f2, .inl (cI, 60, .inl fmk)), (f8, .inl (cI, 30, .inl fca))]) hP hD [0, 1, 2, 3, 5] [4, 6, 7, 8] rfl rfl (by decide) (by decide) hk1 hFc hP1 hD1
            replace hP : va_P (dC, dI) clA [(f3, .inl (cI, 60, .inl ftk)), (k0, .inr (7, [.ref k1, .ref k2, .int (nI kg2), .int (nI kg2)])), (k1, .inl (cL, 815, .inr (.inl ky2))), (k2, .inl (cL, 815, .inr (.inl kn2))), (q0, .inr (6, [.ref n0, .ref f0, .ref w0, .ref k0, .ref s0, .int (nI qu)])), (f0, .inr (2, [.int (nI pfc), .ref f1, .ref f2, .ref f3, .ref f4, .ref f5, .int (nI pfe), .ref f6, .ref f7, .ref f8, .ref f9, .ref f10, .int pfu, .int pfw])), (f1, .inl (cI, 60, .inl fpl)), (f2, .inl (cI, 60, .inl fmk)), (f8, .inl (cI, 30, .inl fca))] H60 := hPn
            replace hD : va_D A [(f3, .inl (cI, 60, .inl ftk)), (k0, .inr (7, [.ref k1, .ref k2, .int (nI kg2), .int (nI kg2)])), (k1, .inl (cL, 815, .inr (.inl ky2))), (k2, .inl (cL, 815, .inr (.inl kn2))), (q0, .inr (6, [.ref n0, .ref f0, .ref w0, .ref k0, .ref s0, .int (nI qu)])), (f0, .inr (2, [.int (nI pfc), .ref f1, .ref f2, .ref f3, .ref f4, .ref f5, .int (nI pfe), .ref f6, .ref f7, .ref f8, .ref f9, .ref f10, .int pfu, .int pfw])), (f1, .inl (cI, 60, .inl fpl)), (f2, .inl (cI, 60, .inl fmk)), (f8, .inl (cI, 30, .inl fca))] := hDn
            replace hS := hSn
            clear hPn hDn hSn
            clear hPc hDc hFc hP1 hD1 hk1 hz1 ht9 hvm
            refine W.cs (cells' := 0) (slots' := 0) rfl rfl ?_
            have hr63 := hw61
            refine lv_lconst (v := 1) hx hb d_Qu_describeCondition_107 (by decide) ?_
            refine lv_iload hx hb d_Qu_describeCondition_108 (lv_at hl 5 rfl) ?_
            refine lv_lshl (v := 1 <<< (Int32.toInt64 (nI i) &&& 63)) hx hb d_Qu_describeCondition_110 rfl ?_
            refine lv_iload_n hx hb d_Qu_describeCondition_111 rfl (lv_at hl 2 rfl) ?_
            have hPc : va_P (dC, dI) clA [] _ := pu_P (H := H60)
            have hDc : va_D (fun _ => True) [] := pu_D
            have hFc := pu_free hS hA
            refine va_calll (va_runS (As := [.int (nI pp)]) (rest := [.long (1 <<< (Int32.toInt64 (nI i) &&& 63)), .long r62, .ref k0]) ⟨hx, hb, hml, hown, ht⟩ (c_Qu_placeBit l dC dI cI cL cZ _ pp (by first | assumption | omega | trivial | exact AllLt.zero | exact AllN.zero | exact AllM.zero | exact Or.inl rfl | exact Or.inr rfl)) (va_cwS 1 ht (good_S wd_3_133 wd_3_134 wd_1_7 wd_3_135) rfl rfl rfl (by decide +kernel) ⟨Nat.le_of_ble_eq_true rfl, Nat.le_of_ble_eq_true rfl⟩) ⟨fun a U g mk q => by obtain ⟨q0, q1, qP, qK, qD, qN⟩ := q; exact ⟨q0, q1, qP, va_K.moved (u := U) (U := U.calling g mk a) (Vm.Alike.refl U.vm) qK, qD, NwA.same (u := U) rfl qN⟩, fun U hU hW => ⟨rfl, by rw [hU], by rw [hU]; exact hPc, va_K.moved hW.alike hK, hDc.weaken (fun _ _ _ _ => trivial), NwA.warm hW hN⟩⟩ rfl rfl hl.1 rfl (lv_room (Nat.le_of_ble_eq_true rfl)) d_Qu_describeCondition_112 ⟨Nat.le_of_ble_eq_true rfl, Nat.le_of_ble_eq_true rfl⟩) hS (fun q _ h => hFc q h) hFc (fun r66 u9 t9 H64 locs ht9 hvm hw65 hB hz1 hk1 hSn => ?_)
            replace hP : va_P (dC, dI) clA [(f3, .inl (cI, 60, .inl ftk)), (k0, .inr (7, [.ref k1, .ref k2, .int (nI kg2), .int (nI kg2)])), (k1, .inl (cL, 815, .inr (.inl ky2))), (k2, .inl (cL, 815, .inr (.inl kn2))), (q0, .inr (6, [.ref n0, .ref f0, .ref w0, .ref k0, .ref s0, .int (nI qu)])), (f0, .inr (2, [.int (nI pfc), .ref f1, .ref f2, .ref f3, .ref f4, .ref f5, .int (nI pfe), .ref f6, .ref f7, .ref f8, .ref f9, .ref f10, .int pfu, .int pfw])), (f1, .inl (cI, 60, .inl fpl)), (f2, .inl (cI, 60, .inl fmk)), (f8, .inl (cI, 30, .inl fca))] H64 := pu_keep hP hk1
            replace hS := hSn
            clear hSn hPc hDc hFc hk1 hz1 ht9 hvm hB
            refine W.cs (cells' := 0) (slots' := 0) rfl rfl ?_
            have hr67 := hw65
            refine lv_lor hx hb d_Qu_describeCondition_115 ?_
            have hPc := hP.sub (ws' := [(k0, .inr (7, [.ref k1, .ref k2, .int (nI kg2), .int (nI kg2)])), (k1, .inl (cL, 815, .inr (.inl ky2))), (k2, .inl (cL, 815, .inr (.inl kn2)))]) [1, 2, 3] rfl
            have hDc := hD.sub (ws' := [(k0, .inr (7, [.ref k1, .ref k2, .int (nI kg2), .int (nI kg2)])), (k1, .inl (cL, 815, .inr (.inl ky2))), (k2, .inl (cL, 815, .inr (.inl kn2)))]) [1, 2, 3] (by decide) rfl
            have hFc := va_free (wc := [(k0, .inr (7, [.ref k1, .ref k2, .int (nI kg2), .int (nI kg2)])), (k1, .inl (cL, 815, .inr (.inl ky2))), (k2, .inl (cL, 815, .inr (.inl kn2)))]) hD hS hA [1, 2, 3] rfl
            refine va_callv (va_runV (C := "NetUnfolder$Clauses") (As := [.long r62, .long ((1 <<< (Int32.toInt64 (nI i) &&& 63)) ||| r66)]) (rest := []) ⟨hx, hb, hml, hown, ht⟩ (c_Cs_give l dC dI cI cL cZ _ k0 k1 k2 kg2 ky2 kn2 r62 ((1 <<< (Int32.toInt64 (nI i) &&& 63)) ||| r66) (by first | assumption | omega | trivial | exact AllLt.zero | exact AllN.zero | exact AllM.zero | exact Or.inl rfl | exact Or.inr rfl) (by first | assumption | omega | trivial | exact AllLt.zero | exact AllN.zero | exact AllM.zero | exact Or.inl rfl | exact Or.inr rfl) (by first | assumption | omega | trivial | exact AllLt.zero | exact AllN.zero | exact AllM.zero | exact Or.inl rfl | exact Or.inr rfl) (by repeat (first | with_reducible assumption | with_reducible exact M38.zero | with_reducible exact M38.all | with_reducible apply M38.or | (with_reducible apply M38.bit; omega) | (with_reducible apply M38.andI; omega) | (with_reducible apply M38.ofI; omega))) (by repeat (first | with_reducible assumption | with_reducible exact M38.zero | with_reducible exact M38.all | with_reducible apply M38.or | (with_reducible apply M38.bit; omega) | (with_reducible apply M38.andI; omega) | (with_reducible apply M38.ofI; omega)))) (cwV 2 ht (good_V wd_3_125 wd_3_126 wd_3_127 wd_1_8 wd_3_128) rfl rfl rfl (by decide +kernel) ⟨Nat.le_of_ble_eq_true rfl, Nat.le_of_ble_eq_true rfl⟩) ⟨fun a U g mk q => by obtain ⟨q0, q1, qP, qK, qD, qN⟩ := q; exact ⟨q0, q1, qP, va_K.moved (u := U) (U := U.calling g mk a) (Vm.Alike.refl U.vm) qK, qD, NwA.same (u := U) rfl qN⟩, (va_recv (q0 := 1) (ci := 7) hK hP rfl rfl), fun U hU hW => ⟨rfl, by rw [hU], by rw [hU]; exact hPc, va_K.moved hW.alike hK, hDc.weaken (fun _ _ _ _ => trivial), NwA.warm hW hN⟩⟩ rfl rfl hl.1 rfl (lv_room (Nat.le_of_ble_eq_true rfl)) d_Qu_describeCondition_116 ⟨Nat.le_of_ble_eq_true rfl, Nat.le_of_ble_eq_true rfl⟩) hS (fun q _ h => hFc q h) hFc (fun u9 t9 H68 locs ht9 hvm hw69 hB hz1 hk1 hSn => ?_)
            obtain ⟨kg171, ky172, kn173, hf74, hf75, hf76, hP1, hD1⟩ := hB
            rw [ht9] at hP1
            obtain ⟨hPn, hDn⟩ := va_join (wr := [(f3, .inl (cI, 60, .inl ftk)), (q0, .inr (6, [.ref n0, .ref f0, .ref w0, .ref k0, .ref s0, .int (nI qu)])), (f0, .inr (2, [.int (nI pfc), .ref f1, .ref f2, .ref f3, .ref f4, .ref f5, .int (nI pfe), .ref f6, .ref f7, .ref f8, .ref f9, .ref f10, .int pfu, .int pfw])), (f1, .inl (cI, 60, .inl fpl)), (f2, .inl (cI, 60, .inl fmk)), (f8, .inl (cI, 30, .inl fca))]) (w1 := [(k0, .inr (7, [.ref k1, .ref k2, .int (nI kg171), .int (nI kg171)])), (k1, .inl (cL, 815, .inr (.inl ky172))), (k2, .inl (cL, 815, .inr (.inl kn173)))]) hP hD [1, 2, 3] [0, 4, 5, 6, 7, 8] rfl rfl (by decide) (by decide) hk1 hFc hP1 hD1
            replace hP : va_P (dC, dI) clA [(f3, .inl (cI, 60, .inl ftk)), (q0, .inr (6, [.ref n0, .ref f0, .ref w0, .ref k0, .ref s0, .int (nI qu)])), (f0, .inr (2, [.int (nI pfc), .ref f1, .ref f2, .ref f3, .ref f4, .ref f5, .int (nI pfe), .ref f6, .ref f7, .ref f8, .ref f9, .ref f10, .int pfu, .int pfw])), (f1, .inl (cI, 60, .inl fpl)), (f2, .inl (cI, 60, .inl fmk)), (f8, .inl (cI, 30, .inl fca)), (k0, .inr (7, [.ref k1, .ref k2, .int (nI kg171), .int (nI kg171)])), (k1, .inl (cL, 815, .inr (.inl ky172))), (k2, .inl (cL, 815, .inr (.inl kn173)))] H68 := hPn
            replace hD : va_D A [(f3, .inl (cI, 60, .inl ftk)), (q0, .inr (6, [.ref n0, .ref f0, .ref w0, .ref k0, .ref s0, .int (nI qu)])), (f0, .inr (2, [.int (nI pfc), .ref f1, .ref f2, .ref f3, .ref f4, .ref f5, .int (nI pfe), .ref f6, .ref f7, .ref f8, .ref f9, .ref f10, .int pfu, .int pfw])), (f1, .inl (cI, 60, .inl fpl)), (f2, .inl (cI, 60, .inl fmk)), (f8, .inl (cI, 30, .inl fca)), (k0, .inr (7, [.ref k1, .ref k2, .int (nI kg171), .int (nI kg171)])), (k1, .inl (cL, 815, .inr (.inl ky172))), (k2, .inl (cL, 815, .inr (.inl kn173)))] := hDn
            replace hS := hSn
            clear hPn hDn hSn
            clear hPc hDc hFc hP1 hD1 hk1 hz1 ht9 hvm
            refine W.cs (cells' := 0) (slots' := 0) rfl rfl ?_
            refine lv_iinc (k := 5) (v := nI (i + 1)) (lv' := [(6, .int (nI (i + 1))), (0, .ref q0), (1, .int (nI k)), (2, .int (nI pp)), (3, .int x3), (4, .long x4)]) hx hb d_Qu_describeCondition_119 hl rfl (nI_1 _) (by decide) rfl (fun ls hln => ?_)
            replace hl : lv_has ls 7 [(6, .int (nI (i + 1))), (0, .ref q0), (1, .int (nI k)), (2, .int (nI pp)), (3, .int x3), (4, .long x4)] := hln
            clear hln
            refine lv_goto (tgt := 74) hx hb d_Qu_describeCondition_122 (by decide) ?_
            exact hloop54_ih (i + 1) x3 x4 kg171 ky172 kn173 (by first | assumption | omega | trivial | exact AllLt.zero | exact AllN.zero | exact AllM.zero | exact Or.inl rfl | exact Or.inr rfl) (by first | assumption | omega | trivial | exact AllLt.zero | exact AllN.zero | exact AllM.zero | exact Or.inl rfl | exact Or.inr rfl) (by first | assumption | omega | trivial | exact AllLt.zero | exact AllN.zero | exact AllM.zero | exact Or.inl rfl | exact Or.inr rfl) (by first | assumption | omega | trivial | exact AllLt.zero | exact AllN.zero | exact AllM.zero | exact Or.inl rfl | exact Or.inr rfl) _ _ ls (lv_sub hl [1, 2, 3, 4, 5, 0] rfl) (hP.sub [1, 2, 3, 4, 0, 5, 6, 7, 8] rfl) (hD.sub [1, 2, 3, 4, 0, 5, 6, 7, 8] (by decide) rfl) hS (by omega)
    exact hloop54 ((pfe - 0) + 1) 0 ((ftk k) &&& (nI qu)) 0 kg148 ky149 kn150 (by first | assumption | omega | trivial | exact AllLt.zero | exact AllN.zero | exact AllM.zero | exact Or.inl rfl | exact Or.inr rfl) (by first | assumption | omega | trivial | exact AllLt.zero | exact AllN.zero | exact AllM.zero | exact Or.inl rfl | exact Or.inr rfl) (by first | assumption | omega | trivial | exact AllLt.zero | exact AllN.zero | exact AllM.zero | exact Or.inl rfl | exact Or.inr rfl) (by first | assumption | omega | trivial | exact AllLt.zero | exact AllN.zero | exact AllM.zero | exact Or.inl rfl | exact Or.inr rfl) _ _ ls (lv_sub hl [4, 5, 3, 2, 1, 0] rfl) hP hD hS (Nat.lt_succ_self _)
