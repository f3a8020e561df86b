set_option maxHeartbeats 4000000 in
set_option maxRecDepth 100000 in
theorem c_Se_propagate (l : Launch) (dC : Nat → ClassId) (dI : Nat → Nat → Nat) (cI cL cZ : ClassId) (sz : Nat) (s0 : Nat) (k0 : Nat) (s1 : Nat) (s2 : Nat) (s3 : Nat) (sy : Int64) (sn : Int64) (slv : Nat) (sts : Nat) (ssa : Nat → Int64) (stl : Nat → Int32) (srs : Nat → Int32) (k1 : Nat) (k2 : Nat) (kz : Nat) (kg : Nat) (ky : Nat → Int64) (kn : Nat → Int64) (hsi : SeI sy sn slv sts ssa) (hstl : AllLt stl 38 38) (hsrs : AllN srs 38 815) (hgz : kg ≤ kz) (hkz : kz ≤ 815) (hkg : kg ≤ 751) (hky : AllM ky 815) (hkn : AllM kn 815) : Met l y_Se_propagate (Cond.code y_Se_propagate prog_7_method_7_code 6 (some .int) :: wsA) { frames := 2, cells := 0, slots := 0, locals := 42 } (va_Pc [.ref s0] (fun U => U.heap.size = sz ∧ va_P (dC, dI) clA [(s0, .inr (8, [.ref k0, .long sy, .long sn, .int (nI slv), .ref s1, .ref s2, .int (nI sts), .ref s3])), (s1, .inl (cL, 39, .inr (.inl ssa))), (s2, .inl (cI, 38, .inl stl)), (s3, .inl (cI, 38, .inl srs)), (k0, .inr (7, [.ref k1, .ref k2, .int (nI kz), .int (nI kg)])), (k1, .inl (cL, 815, .inr (.inl ky))), (k2, .inl (cL, 815, .inr (.inl kn)))] U.heap ∧ va_K (dC, dI) clA [(cI, .int), (cL, .long), (cZ, .boolean)] U ∧ va_D (fun _ => True) [(s0, .inr (8, [.ref k0, .long sy, .long sn, .int (nI slv), .ref s1, .ref s2, .int (nI sts), .ref s3])), (s1, .inl (cL, 39, .inr (.inl ssa))), (s2, .inl (cI, 38, .inl stl)), (s3, .inl (cI, 38, .inl srs)), (k0, .inr (7, [.ref k1, .ref k2, .int (nI kz), .int (nI kg)])), (k1, .inl (cL, 815, .inr (.inl ky))), (k2, .inl (cL, 815, .inr (.inl kn)))] ∧ NwA U)) (va_Qi (fun r (_ : Unit) => (r = -1 ∨ ∃ j, j < kz ∧ r = nI j)) (fun _ t => ∃ (sy1 : Int64), ∃ (sn1 : Int64), ∃ (sts1 : Nat), ∃ (ssa1 : Nat → Int64), ∃ (stl1 : Nat → Int32), ∃ (srs1 : Nat → Int32), (SeI sy1 sn1 slv sts1 ssa1) ∧ (AllLt stl1 38 38) ∧ (AllN srs1 38 815) ∧ va_P (dC, dI) clA [(s0, .inr (8, [.ref k0, .long sy1, .long sn1, .int (nI slv), .ref s1, .ref s2, .int (nI sts1), .ref s3])), (s1, .inl (cL, 39, .inr (.inl ssa1))), (s2, .inl (cI, 38, .inl stl1)), (s3, .inl (cI, 38, .inl srs1)), (k0, .inr (7, [.ref k1, .ref k2, .int (nI kz), .int (nI kg)])), (k1, .inl (cL, 815, .inr (.inl ky))), (k2, .inl (cL, 815, .inr (.inl kn)))] t.heap ∧ va_D (va_A [(s0, .inr (8, [.ref k0, .long sy, .long sn, .int (nI slv), .ref s1, .ref s2, .int (nI sts), .ref s3])), (s1, .inl (cL, 39, .inr (.inl ssa))), (s2, .inl (cI, 38, .inl stl)), (s3, .inl (cI, 38, .inl srs)), (k0, .inr (7, [.ref k1, .ref k2, .int (nI kz), .int (nI kg)])), (k1, .inl (cL, 815, .inr (.inl ky))), (k2, .inl (cL, 815, .inr (.inl kn)))] sz) [(s0, .inr (8, [.ref k0, .long sy1, .long sn1, .int (nI slv), .ref s1, .ref s2, .int (nI sts1), .ref s3])), (s1, .inl (cL, 39, .inr (.inl ssa1))), (s2, .inl (cI, 38, .inl stl1)), (s3, .inl (cI, 38, .inl srs1)), (k0, .inr (7, [.ref k1, .ref k2, .int (nI kz), .int (nI kg)])), (k1, .inl (cL, 815, .inr (.inl ky))), (k2, .inl (cL, 815, .inr (.inl kn)))]) (va_A [(s0, .inr (8, [.ref k0, .long sy, .long sn, .int (nI slv), .ref s1, .ref s2, .int (nI sts), .ref s3])), (s1, .inl (cL, 39, .inr (.inl ssa))), (s2, .inl (cI, 38, .inl stl)), (s3, .inl (cI, 38, .inl srs)), (k0, .inr (7, [.ref k1, .ref k2, .int (nI kz), .int (nI kg)])), (k1, .inl (cL, 815, .inr (.inl ky))), (k2, .inl (cL, 815, .inr (.inl kn)))] sz)) 0 0 (va_A [(s0, .inr (8, [.ref k0, .long sy, .long sn, .int (nI slv), .ref s1, .ref s2, .int (nI sts), .ref s3])), (s1, .inl (cL, 39, .inr (.inl ssa))), (s2, .inl (cI, 38, .inl stl)), (s3, .inl (cI, 38, .inl srs)), (k0, .inr (7, [.ref k1, .ref k2, .int (nI kz), .int (nI kg)])), (k1, .inl (cL, 815, .inr (.inl ky))), (k2, .inl (cL, 815, .inr (.inl kn)))] sz) := by
  refine Met.ofW (cc := prog_7_method_7_code) (maxL := 6) (ret := (some .int)) (by decide) rfl ?_
  intro p e s m args below meth c s₁ B hml hv
  obtain ⟨rfl, hsz, hP, hK, hD0, hN⟩ := hv
  have hx := B.exec
  have hb := B.bytes
  have hr := B.returns
  have ht : ∀ w ∈ wsA, w.before _ s = true := fun w h => atoms_spec (ws := (Cond.code y_Se_propagate prog_7_method_7_code 6 (some .int) :: wsA)) B.pre w (List.mem_cons_of_mem _ h)
  have hown : s.vm.findClass "NetUnfolder$Search" = some m.cls := findClass_of_methodNamed B.named
  have hlocks := B.notSynchronized
  subst hsz
  have hD := hD0.self (sz := s.heap.size)
  generalize hAe : va_A [(s0, .inr (8, [.ref k0, .long sy, .long sn, .int (nI slv), .ref s1, .ref s2, .int (nI sts), .ref s3])), (s1, .inl (cL, 39, .inr (.inl ssa))), (s2, .inl (cI, 38, .inl stl)), (s3, .inl (cI, 38, .inl srs)), (k0, .inr (7, [.ref k1, .ref k2, .int (nI kz), .int (nI kg)])), (k1, .inl (cL, 815, .inr (.inl ky))), (k2, .inl (cL, 815, .inr (.inl kn)))] s.heap.size = A at hD ⊢
  have hA : ∀ q : Nat, s.heap.size ≤ q → A q := fun q h => by rw [← hAe]; exact Or.inr h
  have hS : va_S A s.heap s.heap [] := va_S.rf
  have hl := lv_entry ([.ref s0]) (n := 6) (Nat.le_of_ble_eq_true rfl)
  rw [lg_entry_eq]
  generalize (lg_sl ([.ref s0]) ++ List.replicate (6 - (lg_sl ([.ref s0])).length) Slot.unset).toArray = ls at hl ⊢
  replace hl : lv_has ls 6 [(0, .ref s0)] := hl
  refine W_Q (fun Q hQ => ?_)
  obtain ⟨hb1, hb1t, -⟩ := hsi.bounds
  refine lv_iconst (v := 0) hx hb d_Se_propagate_0 (by decide) ?_
  refine lv_istore_n (lv' := [(1, .int 0), (0, .ref s0)]) hx hb d_Se_propagate_1 rfl hl (by decide) rfl (fun ls hln => ?_)
  replace hl : lv_has ls 6 [(1, .int 0), (0, .ref s0)] := hln
  clear hln
  have hloop1 : ∀ (n2 : Nat) (rd : Nat) (sy2 : Int64) (sn2 : Int64) (sts2 : Nat) (ssa2 : Nat → Int64) (stl2 : Nat → Int32) (srs2 : Nat → Int32) (hrd : rd ≤ 39) (hsi2 : SeI sy2 sn2 slv sts2 ssa2) (hstl2 : AllLt stl2 38 38) (hsrs2 : AllN srs2 38 815) (H : Heap) (locs : List Loc) (ls : Array Slot) (hl : lv_has ls 6 [(0, .ref s0), (1, .int (nI rd))]) (hP : va_P (dC, dI) clA [(s0, .inr (8, [.ref k0, .long sy2, .long sn2, .int (nI slv), .ref s1, .ref s2, .int (nI sts2), .ref s3])), (s1, .inl (cL, 39, .inr (.inl ssa2))), (s2, .inl (cI, 38, .inl stl2)), (s3, .inl (cI, 38, .inl srs2)), (k0, .inr (7, [.ref k1, .ref k2, .int (nI kz), .int (nI kg)])), (k1, .inl (cL, 815, .inr (.inl ky))), (k2, .inl (cL, 815, .inr (.inl kn)))] H) (hD : va_D A [(s0, .inr (8, [.ref k0, .long sy2, .long sn2, .int (nI slv), .ref s1, .ref s2, .int (nI sts2), .ref s3])), (s1, .inl (cL, 39, .inr (.inl ssa2))), (s2, .inl (cI, 38, .inl stl2)), (s3, .inl (cI, 38, .inl srs2)), (k0, .inr (7, [.ref k1, .ref k2, .int (nI kz), .int (nI kg)])), (k1, .inl (cL, 815, .inr (.inl ky))), (k2, .inl (cL, 815, .inr (.inl kn)))]) (hS : va_S A s.heap H locs) (hm2 : 39 - rd < n2), W p l e (headSpec (Cond.code y_Se_propagate prog_7_method_7_code 6 (some .int) :: wsA) { frames := 2, cells := 0, slots := 0, locals := 42 }).room s m ([.ref s0] : List Value).toArray below meth c H locs 0 0 Q (F0 m 2 ls []) := by
    clear hl hP hD hS
    intro n2
    induction n2 with
    | zero => intro rd sy2 sn2 sts2 ssa2 stl2 srs2 hrd hsi2 hstl2 hsrs2 H locs ls hl hP hD hS hm; exact absurd hm (Nat.not_lt_zero _)
    | succ n2 hloop1_ih =>
      intro rd sy2 sn2 sts2 ssa2 stl2 srs2 hrd hsi2 hstl2 hsrs2 H locs ls hl hP hD hS hm2
      obtain ⟨-, hb2t, -⟩ := hsi2.bounds
      refine lv_iload_n hx hb d_Se_propagate_2 rfl (lv_at hl 1 rfl) ?_
      refine lv_bipush (v := 38) hx hb d_Se_propagate_3 (by decide) ?_
      refine lv_icmp_gt (tgt := 170) hx hb d_Se_propagate_5 (by decide) (fun hb2 => ?_) (fun hb2 => ?_)
      · skip
        replace hb2 := cv_lt (a := 38) (b := rd) (by omega) (by omega) hb2
        refine lv_iconst (v := (-1)) hx hb d_Se_propagate_170 (by decide) ?_
        have hP9 := hP.sub (ws' := [(s0, .inr (8, [.ref k0, .long sy2, .long sn2, .int (nI slv), .ref s1, .ref s2, .int (nI sts2), .ref s3])), (s1, .inl (cL, 39, .inr (.inl ssa2))), (s2, .inl (cI, 38, .inl stl2)), (s3, .inl (cI, 38, .inl srs2)), (k0, .inr (7, [.ref k1, .ref k2, .int (nI kz), .int (nI kg)])), (k1, .inl (cL, 815, .inr (.inl ky))), (k2, .inl (cL, 815, .inr (.inl kn)))]) [0, 1, 2, 3, 4, 5, 6] rfl
        have hD9 := hD.sub (ws' := [(s0, .inr (8, [.ref k0, .long sy2, .long sn2, .int (nI slv), .ref s1, .ref s2, .int (nI sts2), .ref s3])), (s1, .inl (cL, 39, .inr (.inl ssa2))), (s2, .inl (cI, 38, .inl stl2)), (s3, .inl (cI, 38, .inl srs2)), (k0, .inr (7, [.ref k1, .ref k2, .int (nI kz), .int (nI kg)])), (k1, .inl (cL, 815, .inr (.inl ky))), (k2, .inl (cL, 815, .inr (.inl kn)))]) [0, 1, 2, 3, 4, 5, 6] (by decide) rfl
        subst hQ
        exact W.iret (v := (-1)) hx hb hr (fun t9 ht9 hW => ⟨⟨(-1), (), rfl, (Or.inl rfl), sy2, sn2, sts2, ssa2, stl2, srs2, (by first | assumption | omega | trivial | exact AllLt.zero | exact AllN.zero | exact AllM.zero | exact Or.inl rfl | exact Or.inr rfl), (by first | assumption | omega | trivial | exact AllLt.zero | exact AllN.zero | exact AllM.zero | exact Or.inl rfl | exact Or.inr rfl), (by first | assumption | omega | trivial | exact AllLt.zero | exact AllN.zero | exact AllM.zero | exact Or.inl rfl | exact Or.inr rfl), by rw [ht9]; exact hP9, hD9⟩, hS.F ht9⟩) hS.2.2 d_Se_propagate_171
      · skip
        replace hb2 := cv_nlt (a := 38) (b := rd) (by omega) (by omega) hb2
        refine lv_aload_n hx hb d_Se_propagate_8 rfl (lv_at hl 0 rfl) ?_
        refine va_get (D := (dC, dI)) (ci := 8) (v := .int (nI sts2)) (C := "NetUnfolder$Search") (T := T_Se) (N := 8) hx hb ht in_Se hown hK hP 0 rfl rfl 6 (by decide) (ht _ wd_1_238) (fun _ h9 => h9) rfl d_Se_propagate_9 ?_
        refine lv_istore_n (lv' := [(2, .int (nI sts2)), (0, .ref s0), (1, .int (nI rd))]) hx hb d_Se_propagate_12 rfl hl (by decide) rfl (fun ls hln => ?_)
        replace hl : lv_has ls 6 [(2, .int (nI sts2)), (0, .ref s0), (1, .int (nI rd))] := hln
        clear hln
        refine lv_iconst (v := 0) hx hb d_Se_propagate_13 (by decide) ?_
        refine lv_istore_n (lv' := [(3, .int 0), (2, .int (nI sts2)), (0, .ref s0), (1, .int (nI rd))]) hx hb d_Se_propagate_14 rfl hl (by decide) rfl (fun ls hln => ?_)
        replace hl : lv_has ls 6 [(3, .int 0), (2, .int (nI sts2)), (0, .ref s0), (1, .int (nI rd))] := hln
        clear hln
        have hloop3 : ∀ (n15 : Nat) (i : Nat) (bf : Nat) (sy3 : Int64) (sn3 : Int64) (sts3 : Nat) (ssa3 : Nat → Int64) (stl3 : Nat → Int32) (srs3 : Nat → Int32) (hi : i ≤ kz) (hbf : bf ≤ 38) (hsi3 : SeI sy3 sn3 slv sts3 ssa3) (hstl3 : AllLt stl3 38 38) (hsrs3 : AllN srs3 38 815) (H : Heap) (locs : List Loc) (ls : Array Slot) (hl : lv_has ls 6 [(0, .ref s0), (1, .int (nI rd)), (2, .int (nI bf)), (3, .int (nI i))]) (hP : va_P (dC, dI) clA [(s0, .inr (8, [.ref k0, .long sy3, .long sn3, .int (nI slv), .ref s1, .ref s2, .int (nI sts3), .ref s3])), (s1, .inl (cL, 39, .inr (.inl ssa3))), (s2, .inl (cI, 38, .inl stl3)), (s3, .inl (cI, 38, .inl srs3)), (k0, .inr (7, [.ref k1, .ref k2, .int (nI kz), .int (nI kg)])), (k1, .inl (cL, 815, .inr (.inl ky))), (k2, .inl (cL, 815, .inr (.inl kn)))] H) (hD : va_D A [(s0, .inr (8, [.ref k0, .long sy3, .long sn3, .int (nI slv), .ref s1, .ref s2, .int (nI sts3), .ref s3])), (s1, .inl (cL, 39, .inr (.inl ssa3))), (s2, .inl (cI, 38, .inl stl3)), (s3, .inl (cI, 38, .inl srs3)), (k0, .inr (7, [.ref k1, .ref k2, .int (nI kz), .int (nI kg)])), (k1, .inl (cL, 815, .inr (.inl ky))), (k2, .inl (cL, 815, .inr (.inl kn)))]) (hS : va_S A s.heap H locs) (hm15 : kz - i < n15), W p l e (headSpec (Cond.code y_Se_propagate prog_7_method_7_code 6 (some .int) :: wsA) { frames := 2, cells := 0, slots := 0, locals := 42 }).room s m ([.ref s0] : List Value).toArray below meth c H locs 0 0 Q (F0 m 15 ls []) := by
          clear hl hP hD hS
          intro n15
          induction n15 with
          | zero => intro i bf sy3 sn3 sts3 ssa3 stl3 srs3 hi hbf hsi3 hstl3 hsrs3 H locs ls hl hP hD hS hm; exact absurd hm (Nat.not_lt_zero _)
          | succ n15 hloop3_ih =>
            intro i bf sy3 sn3 sts3 ssa3 stl3 srs3 hi hbf hsi3 hstl3 hsrs3 H locs ls hl hP hD hS hm15
            obtain ⟨-, hb3t, -⟩ := hsi3.bounds
            refine lv_iload_n hx hb d_Se_propagate_15 rfl (lv_at hl 3 rfl) ?_
            refine lv_aload_n hx hb d_Se_propagate_16 rfl (lv_at hl 0 rfl) ?_
            refine va_get (D := (dC, dI)) (ci := 8) (v := .ref k0) (C := "NetUnfolder$Search") (T := T_Se) (N := 8) hx hb ht in_Se hown hK hP 0 rfl rfl 0 (by decide) (ht _ wd_1_232) (fun _ h9 => h9) rfl d_Se_propagate_17 ?_
            refine va_get (D := (dC, dI)) (ci := 7) (v := .int (nI kz)) (C := "NetUnfolder$Clauses") (T := T_Cs) (N := 4) hx hb ht in_Cs hown hK hP 4 rfl rfl 2 (by decide) (ht _ wd_1_214) (fun _ h9 => h9) rfl d_Se_propagate_20 ?_
            refine lv_icmp_ge (tgt := 154) hx hb d_Se_propagate_23 (by decide) (fun hb4 => ?_) (fun hb4 => ?_)
            · skip
              replace hb4 := cv_le (a := kz) (b := i) (by omega) (by omega) hb4
              refine lv_aload_n hx hb d_Se_propagate_154 rfl (lv_at hl 0 rfl) ?_
              refine va_get (D := (dC, dI)) (ci := 8) (v := .int (nI sts3)) (C := "NetUnfolder$Search") (T := T_Se) (N := 8) hx hb ht in_Se hown hK hP 0 rfl rfl 6 (by decide) (ht _ wd_1_238) (fun _ h9 => h9) rfl d_Se_propagate_155 ?_
              refine lv_iload_n hx hb d_Se_propagate_158 rfl (lv_at hl 2 rfl) ?_
              refine lv_icmp_ne (tgt := 164) hx hb d_Se_propagate_159 (by decide) (fun hb5 => ?_) (fun hb5 => ?_)
              · skip
                replace hb5 := cv_ne (a := sts3) (b := bf) (by omega) (by omega) hb5
                refine lv_iinc (k := 1) (v := nI (rd + 1)) (lv' := [(1, .int (nI (rd + 1))), (0, .ref s0), (2, .int (nI bf)), (3, .int (nI i))]) hx hb d_Se_propagate_164 hl rfl (nI_1 _) (by decide) rfl (fun ls hln => ?_)
                replace hl : lv_has ls 6 [(1, .int (nI (rd + 1))), (0, .ref s0), (2, .int (nI bf)), (3, .int (nI i))] := hln
                clear hln
                refine lv_goto (tgt := 2) hx hb d_Se_propagate_167 (by decide) ?_
                exact hloop1_ih (rd + 1) sy3 sn3 sts3 ssa3 stl3 srs3 (by first | assumption | omega | trivial | exact AllLt.zero | exact AllN.zero | exact AllM.zero | exact Or.inl rfl | exact Or.inr rfl) (by first | assumption | omega | trivial | exact AllLt.zero | exact AllN.zero | exact AllM.zero | exact Or.inl rfl | exact Or.inr rfl) (by first | assumption | omega | trivial | exact AllLt.zero | exact AllN.zero | exact AllM.zero | exact Or.inl rfl | exact Or.inr rfl) (by first | assumption | omega | trivial | exact AllLt.zero | exact AllN.zero | exact AllM.zero | exact Or.inl rfl | exact Or.inr rfl) _ _ ls (lv_sub hl [1, 0] rfl) (hP.sub [0, 1, 2, 3, 4, 5, 6] rfl) (hD.sub [0, 1, 2, 3, 4, 5, 6] (by decide) rfl) hS (by omega)
              · skip
                replace hb5 := cv_eq (a := sts3) (b := bf) (by omega) (by omega) hb5
                refine lv_iconst (v := (-1)) hx hb d_Se_propagate_162 (by decide) ?_
                have hP9 := hP.sub (ws' := [(s0, .inr (8, [.ref k0, .long sy3, .long sn3, .int (nI slv), .ref s1, .ref s2, .int (nI sts3), .ref s3])), (s1, .inl (cL, 39, .inr (.inl ssa3))), (s2, .inl (cI, 38, .inl stl3)), (s3, .inl (cI, 38, .inl srs3)), (k0, .inr (7, [.ref k1, .ref k2, .int (nI kz), .int (nI kg)])), (k1, .inl (cL, 815, .inr (.inl ky))), (k2, .inl (cL, 815, .inr (.inl kn)))]) [0, 1, 2, 3, 4, 5, 6] rfl
                have hD9 := hD.sub (ws' := [(s0, .inr (8, [.ref k0, .long sy3, .long sn3, .int (nI slv), .ref s1, .ref s2, .int (nI sts3), .ref s3])), (s1, .inl (cL, 39, .inr (.inl ssa3))), (s2, .inl (cI, 38, .inl stl3)), (s3, .inl (cI, 38, .inl srs3)), (k0, .inr (7, [.ref k1, .ref k2, .int (nI kz), .int (nI kg)])), (k1, .inl (cL, 815, .inr (.inl ky))), (k2, .inl (cL, 815, .inr (.inl kn)))]) [0, 1, 2, 3, 4, 5, 6] (by decide) rfl
                subst hQ
                exact W.iret (v := (-1)) hx hb hr (fun t9 ht9 hW => ⟨⟨(-1), (), rfl, (Or.inl rfl), sy3, sn3, sts3, ssa3, stl3, srs3, (by first | assumption | omega | trivial | exact AllLt.zero | exact AllN.zero | exact AllM.zero | exact Or.inl rfl | exact Or.inr rfl), (by first | assumption | omega | trivial | exact AllLt.zero | exact AllN.zero | exact AllM.zero | exact Or.inl rfl | exact Or.inr rfl), (by first | assumption | omega | trivial | exact AllLt.zero | exact AllN.zero | exact AllM.zero | exact Or.inl rfl | exact Or.inr rfl), by rw [ht9]; exact hP9, hD9⟩, hS.F ht9⟩) hS.2.2 d_Se_propagate_163
            · skip
              replace hb4 := cv_nle (a := kz) (b := i) (by omega) (by omega) hb4
              refine lv_aload_n hx hb d_Se_propagate_26 rfl (lv_at hl 0 rfl) ?_
              refine va_get (D := (dC, dI)) (ci := 8) (v := .ref k0) (C := "NetUnfolder$Search") (T := T_Se) (N := 8) hx hb ht in_Se hown hK hP 0 rfl rfl 0 (by decide) (ht _ wd_1_232) (fun _ h9 => h9) rfl d_Se_propagate_27 ?_
              refine va_get (D := (dC, dI)) (ci := 7) (v := .ref k1) (C := "NetUnfolder$Clauses") (T := T_Cs) (N := 4) hx hb ht in_Cs hown hK hP 4 rfl rfl 0 (by decide) (ht _ wd_1_210) (fun _ h9 => h9) rfl d_Se_propagate_30 ?_
              refine lv_iload_n hx hb d_Se_propagate_33 rfl (lv_at hl 3 rfl) ?_
              refine na_lald (k := i) hx hb hK hP 5 1 rfl rfl (by omega) (by decide) d_Se_propagate_34 ?_
              refine lv_aload_n hx hb d_Se_propagate_35 rfl (lv_at hl 0 rfl) ?_
              refine va_get (D := (dC, dI)) (ci := 8) (v := .long sy3) (C := "NetUnfolder$Search") (T := T_Se) (N := 8) hx hb ht in_Se hown hK hP 0 rfl rfl 1 (by decide) (ht _ wd_1_233) (fun _ h9 => h9) rfl d_Se_propagate_36 ?_
              refine lv_land hx hb d_Se_propagate_39 ?_
              refine lv_aload_n hx hb d_Se_propagate_40 rfl (lv_at hl 0 rfl) ?_
              refine va_get (D := (dC, dI)) (ci := 8) (v := .ref k0) (C := "NetUnfolder$Search") (T := T_Se) (N := 8) hx hb ht in_Se hown hK hP 0 rfl rfl 0 (by decide) (ht _ wd_1_232) (fun _ h9 => h9) rfl d_Se_propagate_41 ?_
              refine va_get (D := (dC, dI)) (ci := 7) (v := .ref k2) (C := "NetUnfolder$Clauses") (T := T_Cs) (N := 4) hx hb ht in_Cs hown hK hP 4 rfl rfl 1 (by decide) (ht _ wd_1_212) (fun _ h9 => h9) rfl d_Se_propagate_44 ?_
              refine lv_iload_n hx hb d_Se_propagate_47 rfl (lv_at hl 3 rfl) ?_
              refine na_lald (k := i) hx hb hK hP 6 1 rfl rfl (by omega) (by decide) d_Se_propagate_48 ?_
              refine lv_aload_n hx hb d_Se_propagate_49 rfl (lv_at hl 0 rfl) ?_
              refine va_get (D := (dC, dI)) (ci := 8) (v := .long sn3) (C := "NetUnfolder$Search") (T := T_Se) (N := 8) hx hb ht in_Se hown hK hP 0 rfl rfl 2 (by decide) (ht _ wd_1_234) (fun _ h9 => h9) rfl d_Se_propagate_50 ?_
              refine lv_land hx hb d_Se_propagate_53 ?_
              refine lv_lor hx hb d_Se_propagate_54 ?_
              refine lv_lconst (v := 0) hx hb d_Se_propagate_55 (by decide) ?_
              refine W.lcmp hx hb d_Se_propagate_56 ?_
              refine lv_if_ne (tgt := 148) hx hb d_Se_propagate_57 (by decide) (fun hb6 => ?_) (fun hb6 => ?_)
              · skip
                refine lv_iinc (k := 3) (v := nI (i + 1)) (lv' := [(3, .int (nI (i + 1))), (0, .ref s0), (1, .int (nI rd)), (2, .int (nI bf))]) hx hb d_Se_propagate_148 hl rfl (nI_1 _) (by decide) rfl (fun ls hln => ?_)
                replace hl : lv_has ls 6 [(3, .int (nI (i + 1))), (0, .ref s0), (1, .int (nI rd)), (2, .int (nI bf))] := hln
                clear hln
                refine lv_goto (tgt := 15) hx hb d_Se_propagate_151 (by decide) ?_
                exact hloop3_ih (i + 1) bf sy3 sn3 sts3 ssa3 stl3 srs3 (by first | assumption | omega | trivial | exact AllLt.zero | exact AllN.zero | exact AllM.zero | exact Or.inl rfl | exact Or.inr rfl) (by first | assumption | omega | trivial | exact AllLt.zero | exact AllN.zero | exact AllM.zero | exact Or.inl rfl | exact Or.inr rfl) (by first | assumption | omega | trivial | exact AllLt.zero | exact AllN.zero | exact AllM.zero | exact Or.inl rfl | exact Or.inr rfl) (by first | assumption | omega | trivial | exact AllLt.zero | exact AllN.zero | exact AllM.zero | exact Or.inl rfl | exact Or.inr rfl) (by first | assumption | omega | trivial | exact AllLt.zero | exact AllN.zero | exact AllM.zero | exact Or.inl rfl | exact Or.inr rfl) _ _ ls (lv_sub hl [1, 2, 3, 0] rfl) (hP.sub [0, 1, 2, 3, 4, 5, 6] rfl) (hD.sub [0, 1, 2, 3, 4, 5, 6] (by decide) rfl) hS (by omega)
              · skip
                refine lv_aload_n hx hb d_Se_propagate_60 rfl (lv_at hl 0 rfl) ?_
                refine va_get (D := (dC, dI)) (ci := 8) (v := .ref k0) (C := "NetUnfolder$Search") (T := T_Se) (N := 8) hx hb ht in_Se hown hK hP 0 rfl rfl 0 (by decide) (ht _ wd_1_232) (fun _ h9 => h9) rfl d_Se_propagate_61 ?_
                refine va_get (D := (dC, dI)) (ci := 7) (v := .ref k1) (C := "NetUnfolder$Clauses") (T := T_Cs) (N := 4) hx hb ht in_Cs hown hK hP 4 rfl rfl 0 (by decide) (ht _ wd_1_210) (fun _ h9 => h9) rfl d_Se_propagate_64 ?_
                refine lv_iload_n hx hb d_Se_propagate_67 rfl (lv_at hl 3 rfl) ?_
                refine na_lald (k := i) hx hb hK hP 5 1 rfl rfl (by omega) (by decide) d_Se_propagate_68 ?_
                refine lv_aload_n hx hb d_Se_propagate_69 rfl (lv_at hl 0 rfl) ?_
                refine va_get (D := (dC, dI)) (ci := 8) (v := .ref k0) (C := "NetUnfolder$Search") (T := T_Se) (N := 8) hx hb ht in_Se hown hK hP 0 rfl rfl 0 (by decide) (ht _ wd_1_232) (fun _ h9 => h9) rfl d_Se_propagate_70 ?_
                refine va_get (D := (dC, dI)) (ci := 7) (v := .ref k2) (C := "NetUnfolder$Clauses") (T := T_Cs) (N := 4) hx hb ht in_Cs hown hK hP 4 rfl rfl 1 (by decide) (ht _ wd_1_212) (fun _ h9 => h9) rfl d_Se_propagate_73 ?_
                refine lv_iload_n hx hb d_Se_propagate_76 rfl (lv_at hl 3 rfl) ?_
                refine na_lald (k := i) hx hb hK hP 6 1 rfl rfl (by omega) (by decide) d_Se_propagate_77 ?_
                refine lv_lor hx hb d_Se_propagate_78 ?_
                refine lv_aload_n hx hb d_Se_propagate_79 rfl (lv_at hl 0 rfl) ?_
                refine va_get (D := (dC, dI)) (ci := 8) (v := .long sy3) (C := "NetUnfolder$Search") (T := T_Se) (N := 8) hx hb ht in_Se hown hK hP 0 rfl rfl 1 (by decide) (ht _ wd_1_233) (fun _ h9 => h9) rfl d_Se_propagate_80 ?_
                refine lv_aload_n hx hb d_Se_propagate_83 rfl (lv_at hl 0 rfl) ?_
                refine va_get (D := (dC, dI)) (ci := 8) (v := .long sn3) (C := "NetUnfolder$Search") (T := T_Se) (N := 8) hx hb ht in_Se hown hK hP 0 rfl rfl 2 (by decide) (ht _ wd_1_234) (fun _ h9 => h9) rfl d_Se_propagate_84 ?_
                refine lv_lor hx hb d_Se_propagate_87 ?_
                refine lv_ldc2 hx hb hown (ht _ wd_3_160) d_Se_propagate_88 ?_
                refine lv_lxor hx hb d_Se_propagate_91 ?_
                refine lv_land hx hb d_Se_propagate_92 ?_
                refine lv_lstore (lv' := [(4, .long (((ky i) ||| (kn i)) &&& ((sy3 ||| sn3) ^^^ (-1)))), (0, .ref s0), (1, .int (nI rd)), (2, .int (nI bf)), (3, .int (nI i))]) hx hb d_Se_propagate_93 hl (by decide) rfl (fun ls hln => ?_)
                replace hl : lv_has ls 6 [(4, .long (((ky i) ||| (kn i)) &&& ((sy3 ||| sn3) ^^^ (-1)))), (0, .ref s0), (1, .int (nI rd)), (2, .int (nI bf)), (3, .int (nI i))] := hln
                clear hln
                refine lv_lload hx hb d_Se_propagate_95 (lv_at hl 0 rfl) ?_
                refine lv_lconst (v := 0) hx hb d_Se_propagate_97 (by decide) ?_
                refine W.lcmp hx hb d_Se_propagate_98 ?_
                refine lv_if_ne (tgt := 104) hx hb d_Se_propagate_99 (by decide) (fun hb7 => ?_) (fun hb7 => ?_)
                · skip
                  refine lv_lload hx hb d_Se_propagate_104 (lv_at hl 0 rfl) ?_
                  refine lv_lload hx hb d_Se_propagate_106 (lv_at hl 0 rfl) ?_
                  refine lv_lconst (v := 1) hx hb d_Se_propagate_108 (by decide) ?_
                  refine lv_lsub hx hb d_Se_propagate_109 ?_
                  refine lv_land hx hb d_Se_propagate_110 ?_
                  refine lv_lconst (v := 0) hx hb d_Se_propagate_111 (by decide) ?_
                  refine W.lcmp hx hb d_Se_propagate_112 ?_
                  refine lv_if_ne (tgt := 148) hx hb d_Se_propagate_113 (by decide) (fun hb8 => ?_) (fun hb8 => ?_)
                  · skip
                    refine lv_iinc (k := 4) (v := nI (i + 1)) (lv' := [(3, .int (nI (i + 1))), (4, .long (((ky i) ||| (kn i)) &&& ((sy3 ||| sn3) ^^^ (-1)))), (0, .ref s0), (1, .int (nI rd)), (2, .int (nI bf))]) hx hb d_Se_propagate_148 hl rfl (nI_1 _) (by decide) rfl (fun ls hln => ?_)
                    replace hl : lv_has ls 6 [(3, .int (nI (i + 1))), (4, .long (((ky i) ||| (kn i)) &&& ((sy3 ||| sn3) ^^^ (-1)))), (0, .ref s0), (1, .int (nI rd)), (2, .int (nI bf))] := hln
                    clear hln
                    refine lv_goto (tgt := 15) hx hb d_Se_propagate_151 (by decide) ?_
                    exact hloop3_ih (i + 1) bf sy3 sn3 sts3 ssa3 stl3 srs3 (by first | assumption | omega | trivial | exact AllLt.zero | exact AllN.zero | exact AllM.zero | exact Or.inl rfl | exact Or.inr rfl) (by first | assumption | omega | trivial | exact AllLt.zero | exact AllN.zero | exact AllM.zero | exact Or.inl rfl | exact Or.inr rfl) (by first | assumption | omega | trivial | exact AllLt.zero | exact AllN.zero | exact AllM.zero | exact Or.inl rfl | exact Or.inr rfl) (by first | assumption | omega | trivial | exact AllLt.zero | exact AllN.zero | exact AllM.zero | exact Or.inl rfl | exact Or.inr rfl) (by first | assumption | omega | trivial | exact AllLt.zero | exact AllN.zero | exact AllM.zero | exact Or.inl rfl | exact Or.inr rfl) _ _ ls (lv_sub hl [2, 3, 4, 0] rfl) (hP.sub [0, 1, 2, 3, 4, 5, 6] rfl) (hD.sub [0, 1, 2, 3, 4, 5, 6] (by decide) rfl) hS (by omega)
                  · skip
                    have hop9 := fun q => hb7 ((lg_cmp_eq _ _).mpr q)
                    refine lv_aload_n hx hb d_Se_propagate_116 rfl (lv_at hl 1 rfl) ?_
                    refine lv_lload hx hb d_Se_propagate_117 (lv_at hl 0 rfl) ?_
                    have hPc : va_P (dC, dI) clA [] _ := pu_P (H := H)
                    have hDc : va_D (fun _ => True) [] := pu_D
                    have hFc := pu_free hS hA
                    refine va_calli (va_runSN (As := [.long (((ky i) ||| (kn i)) &&& ((sy3 ||| sn3) ^^^ (-1)))]) (rest := [.ref s0]) ⟨hx, hb, hml, hown, ht⟩ (c_NU_least l dC dI cI cL cZ _ (((ky i) ||| (kn i)) &&& ((sy3 ||| sn3) ^^^ (-1))) (fun q => hop9 q) (M38.andl (M38.or (hky _ (by omega)) (hkn _ (by omega))))) ⟨va_cnB 1 ht (goodA wd_2_225) rfl rfl rfl hN.2.2.2.2.2.2.2.2.1 (ht _ wd_1_1) (by decide +kernel) ⟨Nat.le_of_ble_eq_true rfl, Nat.le_of_ble_eq_true rfl⟩, ht _ wd_2_224, trivial⟩ ⟨fun a U g mk q => by obtain ⟨q0, q1, qP, qK, qD, qN⟩ := q; exact ⟨q0, q1, qP, va_K.moved (u := U) (U := U.calling g mk a) (Vm.Alike.refl U.vm) qK, qD, NwA.same (u := U) rfl qN⟩, fun U hU hW => ⟨rfl, by rw [hU], by rw [hU]; exact hPc, va_K.moved hW.alike hK, hDc.weaken (fun _ _ _ _ => trivial), NwA.warm hW hN⟩⟩ rfl rfl hl.1 rfl (lv_room (Nat.le_of_ble_eq_true rfl)) d_Se_propagate_119 ⟨Nat.le_of_ble_eq_true rfl, Nat.le_of_ble_eq_true rfl⟩) hS (fun q _ h => hFc q h) hFc (fun r11 u9 t9 H9 locs ht9 hvm hw10 hB hz1 hk1 hSn => ?_)
                    replace hP : va_P (dC, dI) clA [(s0, .inr (8, [.ref k0, .long sy3, .long sn3, .int (nI slv), .ref s1, .ref s2, .int (nI sts3), .ref s3])), (s1, .inl (cL, 39, .inr (.inl ssa3))), (s2, .inl (cI, 38, .inl stl3)), (s3, .inl (cI, 38, .inl srs3)), (k0, .inr (7, [.ref k1, .ref k2, .int (nI kz), .int (nI kg)])), (k1, .inl (cL, 815, .inr (.inl ky))), (k2, .inl (cL, 815, .inr (.inl kn)))] H9 := pu_keep hP hk1
                    replace hS := hSn
                    clear hSn hPc hDc hFc hk1 hz1 ht9 hvm hB
                    refine W.cs (cells' := 0) (slots' := 0) rfl rfl ?_
                    obtain ⟨k12, hr13, hr14, rfl⟩ := hw10
                    refine lv_aload_n hx hb d_Se_propagate_122 rfl (lv_at hl 1 rfl) ?_
                    refine va_get (D := (dC, dI)) (ci := 8) (v := .ref k0) (C := "NetUnfolder$Search") (T := T_Se) (N := 8) hx hb ht in_Se hown hK hP 0 rfl rfl 0 (by decide) (ht _ wd_1_232) (fun _ h9 => h9) rfl d_Se_propagate_123 ?_
                    refine va_get (D := (dC, dI)) (ci := 7) (v := .ref k1) (C := "NetUnfolder$Clauses") (T := T_Cs) (N := 4) hx hb ht in_Cs hown hK hP 4 rfl rfl 0 (by decide) (ht _ wd_1_210) (fun _ h9 => h9) rfl d_Se_propagate_126 ?_
                    refine lv_iload_n hx hb d_Se_propagate_129 rfl (lv_at hl 4 rfl) ?_
                    refine na_lald (k := i) hx hb hK hP 5 1 rfl rfl (by omega) (by decide) d_Se_propagate_130 ?_
                    refine lv_lload hx hb d_Se_propagate_131 (lv_at hl 0 rfl) ?_
                    refine lv_land hx hb d_Se_propagate_133 ?_
                    refine lv_lconst (v := 0) hx hb d_Se_propagate_134 (by decide) ?_
                    refine W.lcmp hx hb d_Se_propagate_135 ?_
                    refine lv_if_eq (tgt := 143) hx hb d_Se_propagate_136 (by decide) (fun hb15 => ?_) (fun hb15 => ?_)
                    · skip
                      refine lv_iconst (v := 0) hx hb d_Se_propagate_143 (by decide) ?_
                      refine lv_iload_n hx hb d_Se_propagate_144 rfl (lv_at hl 4 rfl) ?_
                      have hPc := hP.sub (ws' := [(s0, .inr (8, [.ref k0, .long sy3, .long sn3, .int (nI slv), .ref s1, .ref s2, .int (nI sts3), .ref s3])), (s1, .inl (cL, 39, .inr (.inl ssa3))), (s2, .inl (cI, 38, .inl stl3)), (s3, .inl (cI, 38, .inl srs3))]) [0, 1, 2, 3] rfl
                      have hDc := hD.sub (ws' := [(s0, .inr (8, [.ref k0, .long sy3, .long sn3, .int (nI slv), .ref s1, .ref s2, .int (nI sts3), .ref s3])), (s1, .inl (cL, 39, .inr (.inl ssa3))), (s2, .inl (cI, 38, .inl stl3)), (s3, .inl (cI, 38, .inl srs3))]) [0, 1, 2, 3] (by decide) rfl
                      have hFc := va_free (wc := [(s0, .inr (8, [.ref k0, .long sy3, .long sn3, .int (nI slv), .ref s1, .ref s2, .int (nI sts3), .ref s3])), (s1, .inl (cL, 39, .inr (.inl ssa3))), (s2, .inl (cI, 38, .inl stl3)), (s3, .inl (cI, 38, .inl srs3))]) hD hS hA [0, 1, 2, 3] rfl
                      refine va_callv (va_runV (C := "NetUnfolder$Search") (As := [.int (nI k12), .int 0, .int (nI i)]) (rest := []) ⟨hx, hb, hml, hown, ht⟩ (c_Se_assign l dC dI cI cL cZ _ s0 k0 s1 s2 s3 sy3 sn3 slv sts3 ssa3 stl3 srs3 k12 0 (nI i) (SeI.weak hsi3) (by first | assumption | omega | trivial | exact AllLt.zero | exact AllN.zero | exact AllM.zero | exact Or.inl rfl | exact Or.inr rfl) (by first | assumption | omega | trivial | exact AllLt.zero | exact AllN.zero | exact AllM.zero | exact Or.inl rfl | exact Or.inr rfl) (open_bn (by assumption)) (by first | assumption | omega | trivial | exact AllLt.zero | exact AllN.zero | exact AllM.zero | exact Or.inl rfl | exact Or.inr rfl) (by first | assumption | omega | trivial | exact AllLt.zero | exact AllN.zero | exact AllM.zero | exact Or.inl rfl | exact Or.inr rfl) (Or.inr ⟨i, by omega, rfl⟩)) (cwV 3 ht (good_V wd_3_162 wd_3_164 ws_Se_assign wd_1_9 wd_3_165) rfl rfl rfl (by decide +kernel) ⟨Nat.le_of_ble_eq_true rfl, Nat.le_of_ble_eq_true rfl⟩) ⟨fun a U g mk q => by obtain ⟨q0, q1, qP, qK, qD, qN⟩ := q; exact ⟨q0, q1, qP, va_K.moved (u := U) (U := U.calling g mk a) (Vm.Alike.refl U.vm) qK, qD, NwA.same (u := U) rfl qN⟩, (va_recv (q0 := 0) (ci := 8) hK hP rfl rfl), fun U hU hW => ⟨rfl, by rw [hU], by rw [hU]; exact hPc, va_K.moved hW.alike hK, hDc.weaken (fun _ _ _ _ => trivial), NwA.warm hW hN⟩⟩ rfl rfl hl.1 rfl (lv_room (Nat.le_of_ble_eq_true rfl)) d_Se_propagate_145 ⟨Nat.le_of_ble_eq_true rfl, Nat.le_of_ble_eq_true rfl⟩) hS (fun q _ h => hFc q h) hFc (fun u9 t9 H16 locs ht9 hvm hw17 hB hz1 hk1 hSn => ?_)
                      obtain ⟨sy119, sn120, ssa121, stl122, srs123, hf24, hf25, hf26, hP1, hD1⟩ := hB
                      rw [ht9] at hP1
                      obtain ⟨hPn, hDn⟩ := va_join (wr := [(k0, .inr (7, [.ref k1, .ref k2, .int (nI kz), .int (nI kg)])), (k1, .inl (cL, 815, .inr (.inl ky))), (k2, .inl (cL, 815, .inr (.inl kn)))]) (w1 := [(s0, .inr (8, [.ref k0, .long sy119, .long sn120, .int (nI slv), .ref s1, .ref s2, .int (nI (sts3 + 1)), .ref s3])), (s1, .inl (cL, 39, .inr (.inl ssa121))), (s2, .inl (cI, 38, .inl stl122)), (s3, .inl (cI, 38, .inl srs123))]) hP hD [0, 1, 2, 3] [4, 5, 6] rfl rfl (by decide) (by decide) hk1 hFc hP1 hD1
                      replace hP : va_P (dC, dI) clA [(k0, .inr (7, [.ref k1, .ref k2, .int (nI kz), .int (nI kg)])), (k1, .inl (cL, 815, .inr (.inl ky))), (k2, .inl (cL, 815, .inr (.inl kn))), (s0, .inr (8, [.ref k0, .long sy119, .long sn120, .int (nI slv), .ref s1, .ref s2, .int (nI (sts3 + 1)), .ref s3])), (s1, .inl (cL, 39, .inr (.inl ssa121))), (s2, .inl (cI, 38, .inl stl122)), (s3, .inl (cI, 38, .inl srs123))] H16 := hPn
                      replace hD : va_D A [(k0, .inr (7, [.ref k1, .ref k2, .int (nI kz), .int (nI kg)])), (k1, .inl (cL, 815, .inr (.inl ky))), (k2, .inl (cL, 815, .inr (.inl kn))), (s0, .inr (8, [.ref k0, .long sy119, .long sn120, .int (nI slv), .ref s1, .ref s2, .int (nI (sts3 + 1)), .ref s3])), (s1, .inl (cL, 39, .inr (.inl ssa121))), (s2, .inl (cI, 38, .inl stl122)), (s3, .inl (cI, 38, .inl srs123))] := hDn
                      replace hS := hSn
                      clear hPn hDn hSn
                      clear hPc hDc hFc hP1 hD1 hk1 hz1 ht9 hvm
                      refine W.cs (cells' := 0) (slots' := 0) rfl rfl ?_
                      refine lv_iinc (k := 4) (v := nI (i + 1)) (lv' := [(3, .int (nI (i + 1))), (4, .long (((ky i) ||| (kn i)) &&& ((sy3 ||| sn3) ^^^ (-1)))), (0, .ref s0), (1, .int (nI rd)), (2, .int (nI bf))]) hx hb d_Se_propagate_148 hl rfl (nI_1 _) (by decide) rfl (fun ls hln => ?_)
                      replace hl : lv_has ls 6 [(3, .int (nI (i + 1))), (4, .long (((ky i) ||| (kn i)) &&& ((sy3 ||| sn3) ^^^ (-1)))), (0, .ref s0), (1, .int (nI rd)), (2, .int (nI bf))] := hln
                      clear hln
                      refine lv_goto (tgt := 15) hx hb d_Se_propagate_151 (by decide) ?_
                      exact hloop3_ih (i + 1) bf sy119 sn120 (sts3 + 1) ssa121 stl122 srs123 (by first | assumption | omega | trivial | exact AllLt.zero | exact AllN.zero | exact AllM.zero | exact Or.inl rfl | exact Or.inr rfl) (by first | assumption | omega | trivial | exact AllLt.zero | exact AllN.zero | exact AllM.zero | exact Or.inl rfl | exact Or.inr rfl) (by first | assumption | omega | trivial | exact AllLt.zero | exact AllN.zero | exact AllM.zero | exact Or.inl rfl | exact Or.inr rfl) (by first | assumption | omega | trivial | exact AllLt.zero | exact AllN.zero | exact AllM.zero | exact Or.inl rfl | exact Or.inr rfl) (by first | assumption | omega | trivial | exact AllLt.zero | exact AllN.zero | exact AllM.zero | exact Or.inl rfl | exact Or.inr rfl) _ _ ls (lv_sub hl [2, 3, 4, 0] rfl) (hP.sub [3, 4, 5, 6, 0, 1, 2] rfl) (hD.sub [3, 4, 5, 6, 0, 1, 2] (by decide) rfl) hS (by omega)
                    · skip
                      refine lv_iconst (v := 1) hx hb d_Se_propagate_139 (by decide) ?_
                      refine lv_goto (tgt := 144) hx hb d_Se_propagate_140 (by decide) ?_
                      refine lv_iload_n hx hb d_Se_propagate_144 rfl (lv_at hl 4 rfl) ?_
                      have hPc := hP.sub (ws' := [(s0, .inr (8, [.ref k0, .long sy3, .long sn3, .int (nI slv), .ref s1, .ref s2, .int (nI sts3), .ref s3])), (s1, .inl (cL, 39, .inr (.inl ssa3))), (s2, .inl (cI, 38, .inl stl3)), (s3, .inl (cI, 38, .inl srs3))]) [0, 1, 2, 3] rfl
                      have hDc := hD.sub (ws' := [(s0, .inr (8, [.ref k0, .long sy3, .long sn3, .int (nI slv), .ref s1, .ref s2, .int (nI sts3), .ref s3])), (s1, .inl (cL, 39, .inr (.inl ssa3))), (s2, .inl (cI, 38, .inl stl3)), (s3, .inl (cI, 38, .inl srs3))]) [0, 1, 2, 3] (by decide) rfl
                      have hFc := va_free (wc := [(s0, .inr (8, [.ref k0, .long sy3, .long sn3, .int (nI slv), .ref s1, .ref s2, .int (nI sts3), .ref s3])), (s1, .inl (cL, 39, .inr (.inl ssa3))), (s2, .inl (cI, 38, .inl stl3)), (s3, .inl (cI, 38, .inl srs3))]) hD hS hA [0, 1, 2, 3] rfl
                      refine va_callv (va_runV (C := "NetUnfolder$Search") (As := [.int (nI k12), .int 1, .int (nI i)]) (rest := []) ⟨hx, hb, hml, hown, ht⟩ (c_Se_assign l dC dI cI cL cZ _ s0 k0 s1 s2 s3 sy3 sn3 slv sts3 ssa3 stl3 srs3 k12 1 (nI i) (SeI.weak hsi3) (by first | assumption | omega | trivial | exact AllLt.zero | exact AllN.zero | exact AllM.zero | exact Or.inl rfl | exact Or.inr rfl) (by first | assumption | omega | trivial | exact AllLt.zero | exact AllN.zero | exact AllM.zero | exact Or.inl rfl | exact Or.inr rfl) (open_bn (by assumption)) (by first | assumption | omega | trivial | exact AllLt.zero | exact AllN.zero | exact AllM.zero | exact Or.inl rfl | exact Or.inr rfl) (by first | assumption | omega | trivial | exact AllLt.zero | exact AllN.zero | exact AllM.zero | exact Or.inl rfl | exact Or.inr rfl) (Or.inr ⟨i, by omega, rfl⟩)) (cwV 3 ht (good_V wd_3_162 wd_3_164 ws_Se_assign wd_1_9 wd_3_165) rfl rfl rfl (by decide +kernel) ⟨Nat.le_of_ble_eq_true rfl, Nat.le_of_ble_eq_true rfl⟩) ⟨fun a U g mk q => by obtain ⟨q0, q1, qP, qK, qD, qN⟩ := q; exact ⟨q0, q1, qP, va_K.moved (u := U) (U := U.calling g mk a) (Vm.Alike.refl U.vm) qK, qD, NwA.same (u := U) rfl qN⟩, (va_recv (q0 := 0) (ci := 8) hK hP rfl rfl), fun U hU hW => ⟨rfl, by rw [hU], by rw [hU]; exact hPc, va_K.moved hW.alike hK, hDc.weaken (fun _ _ _ _ => trivial), NwA.warm hW hN⟩⟩ rfl rfl hl.1 rfl (lv_room (Nat.le_of_ble_eq_true rfl)) d_Se_propagate_145 ⟨Nat.le_of_ble_eq_true rfl, Nat.le_of_ble_eq_true rfl⟩) hS (fun q _ h => hFc q h) hFc (fun u9 t9 H27 locs ht9 hvm hw28 hB hz1 hk1 hSn => ?_)
                      obtain ⟨sy130, sn131, ssa132, stl133, srs134, hf35, hf36, hf37, hP1, hD1⟩ := hB
                      rw [ht9] at hP1
                      obtain ⟨hPn, hDn⟩ := va_join (wr := [(k0, .inr (7, [.ref k1, .ref k2, .int (nI kz), .int (nI kg)])), (k1, .inl (cL, 815, .inr (.inl ky))), (k2, .inl (cL, 815, .inr (.inl kn)))]) (w1 := [(s0, .inr (8, [.ref k0, .long sy130, .long sn131, .int (nI slv), .ref s1, .ref s2, .int (nI (sts3 + 1)), .ref s3])), (s1, .inl (cL, 39, .inr (.inl ssa132))), (s2, .inl (cI, 38, .inl stl133)), (s3, .inl (cI, 38, .inl srs134))]) hP hD [0, 1, 2, 3] [4, 5, 6] rfl rfl (by decide) (by decide) hk1 hFc hP1 hD1
                      replace hP : va_P (dC, dI) clA [(k0, .inr (7, [.ref k1, .ref k2, .int (nI kz), .int (nI kg)])), (k1, .inl (cL, 815, .inr (.inl ky))), (k2, .inl (cL, 815, .inr (.inl kn))), (s0, .inr (8, [.ref k0, .long sy130, .long sn131, .int (nI slv), .ref s1, .ref s2, .int (nI (sts3 + 1)), .ref s3])), (s1, .inl (cL, 39, .inr (.inl ssa132))), (s2, .inl (cI, 38, .inl stl133)), (s3, .inl (cI, 38, .inl srs134))] H27 := hPn
                      replace hD : va_D A [(k0, .inr (7, [.ref k1, .ref k2, .int (nI kz), .int (nI kg)])), (k1, .inl (cL, 815, .inr (.inl ky))), (k2, .inl (cL, 815, .inr (.inl kn))), (s0, .inr (8, [.ref k0, .long sy130, .long sn131, .int (nI slv), .ref s1, .ref s2, .int (nI (sts3 + 1)), .ref s3])), (s1, .inl (cL, 39, .inr (.inl ssa132))), (s2, .inl (cI, 38, .inl stl133)), (s3, .inl (cI, 38, .inl srs134))] := hDn
                      replace hS := hSn
                      clear hPn hDn hSn
                      clear hPc hDc hFc hP1 hD1 hk1 hz1 ht9 hvm
                      refine W.cs (cells' := 0) (slots' := 0) rfl rfl ?_
                      refine lv_iinc (k := 4) (v := nI (i + 1)) (lv' := [(3, .int (nI (i + 1))), (4, .long (((ky i) ||| (kn i)) &&& ((sy3 ||| sn3) ^^^ (-1)))), (0, .ref s0), (1, .int (nI rd)), (2, .int (nI bf))]) hx hb d_Se_propagate_148 hl rfl (nI_1 _) (by decide) rfl (fun ls hln => ?_)
                      replace hl : lv_has ls 6 [(3, .int (nI (i + 1))), (4, .long (((ky i) ||| (kn i)) &&& ((sy3 ||| sn3) ^^^ (-1)))), (0, .ref s0), (1, .int (nI rd)), (2, .int (nI bf))] := hln
                      clear hln
                      refine lv_goto (tgt := 15) hx hb d_Se_propagate_151 (by decide) ?_
                      exact hloop3_ih (i + 1) bf sy130 sn131 (sts3 + 1) ssa132 stl133 srs134 (by first | assumption | omega | trivial | exact AllLt.zero | exact AllN.zero | exact AllM.zero | exact Or.inl rfl | exact Or.inr rfl) (by first | assumption | omega | trivial | exact AllLt.zero | exact AllN.zero | exact AllM.zero | exact Or.inl rfl | exact Or.inr rfl) (by first | assumption | omega | trivial | exact AllLt.zero | exact AllN.zero | exact AllM.zero | exact Or.inl rfl | exact Or.inr rfl) (by first | assumption | omega | trivial | exact AllLt.zero | exact AllN.zero | exact AllM.zero | exact Or.inl rfl | exact Or.inr rfl) (by first | assumption | omega | trivial | exact AllLt.zero | exact AllN.zero | exact AllM.zero | exact Or.inl rfl | exact Or.inr rfl) _ _ ls (lv_sub hl [2, 3, 4, 0] rfl) (hP.sub [3, 4, 5, 6, 0, 1, 2] rfl) (hD.sub [3, 4, 5, 6, 0, 1, 2] (by decide) rfl) hS (by omega)
                · skip
                  refine lv_iload_n hx hb d_Se_propagate_102 rfl (lv_at hl 4 rfl) ?_
                  have hP9 := hP.sub (ws' := [(s0, .inr (8, [.ref k0, .long sy3, .long sn3, .int (nI slv), .ref s1, .ref s2, .int (nI sts3), .ref s3])), (s1, .inl (cL, 39, .inr (.inl ssa3))), (s2, .inl (cI, 38, .inl stl3)), (s3, .inl (cI, 38, .inl srs3)), (k0, .inr (7, [.ref k1, .ref k2, .int (nI kz), .int (nI kg)])), (k1, .inl (cL, 815, .inr (.inl ky))), (k2, .inl (cL, 815, .inr (.inl kn)))]) [0, 1, 2, 3, 4, 5, 6] rfl
                  have hD9 := hD.sub (ws' := [(s0, .inr (8, [.ref k0, .long sy3, .long sn3, .int (nI slv), .ref s1, .ref s2, .int (nI sts3), .ref s3])), (s1, .inl (cL, 39, .inr (.inl ssa3))), (s2, .inl (cI, 38, .inl stl3)), (s3, .inl (cI, 38, .inl srs3)), (k0, .inr (7, [.ref k1, .ref k2, .int (nI kz), .int (nI kg)])), (k1, .inl (cL, 815, .inr (.inl ky))), (k2, .inl (cL, 815, .inr (.inl kn)))]) [0, 1, 2, 3, 4, 5, 6] (by decide) rfl
                  subst hQ
                  exact W.iret (v := nI i) hx hb hr (fun t9 ht9 hW => ⟨⟨nI i, (), rfl, (Or.inr ⟨_, by omega, rfl⟩), sy3, sn3, sts3, ssa3, stl3, srs3, (by first | assumption | omega | trivial | exact AllLt.zero | exact AllN.zero | exact AllM.zero | exact Or.inl rfl | exact Or.inr rfl), (by first | assumption | omega | trivial | exact AllLt.zero | exact AllN.zero | exact AllM.zero | exact Or.inl rfl | exact Or.inr rfl), (by first | assumption | omega | trivial | exact AllLt.zero | exact AllN.zero | exact AllM.zero | exact Or.inl rfl | exact Or.inr rfl), by rw [ht9]; exact hP9, hD9⟩, hS.F ht9⟩) hS.2.2 d_Se_propagate_103
        exact hloop3 ((kz - 0) + 1) 0 sts2 sy2 sn2 sts2 ssa2 stl2 srs2 (by first | assumption | omega | trivial | exact AllLt.zero | exact AllN.zero | exact AllM.zero | exact Or.inl rfl | exact Or.inr rfl) (by first | assumption | omega | trivial | exact AllLt.zero | exact AllN.zero | exact AllM.zero | exact Or.inl rfl | exact Or.inr rfl) (by first | assumption | omega | trivial | exact AllLt.zero | exact AllN.zero | exact AllM.zero | exact Or.inl rfl | exact Or.inr rfl) (by first | assumption | omega | trivial | exact AllLt.zero | exact AllN.zero | exact AllM.zero | exact Or.inl rfl | exact Or.inr rfl) (by first | assumption | omega | trivial | exact AllLt.zero | exact AllN.zero | exact AllM.zero | exact Or.inl rfl | exact Or.inr rfl) _ _ ls (lv_sub hl [2, 3, 1, 0] rfl) hP hD hS (Nat.lt_succ_self _)
  exact hloop1 ((39 - 0) + 1) 0 sy sn sts ssa stl srs (by first | assumption | omega | trivial | exact AllLt.zero | exact AllN.zero | exact AllM.zero | exact Or.inl rfl | exact Or.inr rfl) (by first | assumption | omega | trivial | exact AllLt.zero | exact AllN.zero | exact AllM.zero | exact Or.inl rfl | exact Or.inr rfl) (by first | assumption | omega | trivial | exact AllLt.zero | exact AllN.zero | exact AllM.zero | exact Or.inl rfl | exact Or.inr rfl) (by first | assumption | omega | trivial | exact AllLt.zero | exact AllN.zero | exact AllM.zero | exact Or.inl rfl | exact Or.inr rfl) _ _ ls (lv_sub hl [1, 0] rfl) hP hD hS (Nat.lt_succ_self _)
