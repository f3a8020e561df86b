set_option maxHeartbeats 4000000 in
set_option maxRecDepth 100000 in
theorem e_Pf_markingOf (l : Launch) (dC : Nat → ClassId) (dI : Nat → Nat → Nat) (cI cL cZ : ClassId) (sz : Nat) (f0 : Nat) (f1 : Nat) (f2 : Nat) (f3 : Nat) (f4 : Nat) (f5 : Nat) (f6 : Nat) (f7 : Nat) (f8 : Nat) (f9 : Nat) (f10 : Nat) (pfc : Nat) (pfe : Nat) (pfu : Int32) (pfw : Int32) (fpl : Nat → Int32) (fmk : Nat → Int32) (ftk : Nat → Int32) (x : Int32) (X : Nat → Prop) (mo : Nat → Option Nat) (tk : Nat → Nat → Prop) (pl : Nat → Nat) (hpc : pfc ≤ 60) (hMak : MakI pfc fmk mo) (hTak : TakI pfc ftk tk) (hPla : PlaI pfc fpl pl) (hXB : B32 x X) (hX31 : ∀ a, X a → a < 31) : Met l y_Pf_markingOf (Cond.code y_Pf_markingOf prog_5_method_9_code 5 (some .int) :: wsA) { frames := 1, cells := 0, slots := 0, locals := 22 } (va_Pc [.ref f0, .int x] (fun U => U.heap.size = sz ∧ va_P (dC, dI) clA [(f0, .inr (2, [.int (nI pfc), .ref f1, .ref f2, .ref f3, .ref f4, .ref f5, .int (nI pfe), .ref f6, .ref f7, .ref f8, .ref f9, .ref f10, .int pfu, .int pfw])), (f1, .inl (cI, 60, .inl fpl)), (f2, .inl (cI, 60, .inl fmk)), (f3, .inl (cI, 60, .inl ftk))] U.heap ∧ va_K (dC, dI) clA [(cI, .int), (cL, .long), (cZ, .boolean)] U ∧ va_D (fun _ => True) [(f0, .inr (2, [.int (nI pfc), .ref f1, .ref f2, .ref f3, .ref f4, .ref f5, .int (nI pfe), .ref f6, .ref f7, .ref f8, .ref f9, .ref f10, .int pfu, .int pfw])), (f1, .inl (cI, 60, .inl fpl)), (f2, .inl (cI, 60, .inl fmk)), (f3, .inl (cI, 60, .inl ftk))] ∧ NwA U)) (va_Qi (fun r (_ : Unit) => (B32 r (fun f => ∃ c, c < pfc ∧ (((mo c = none ∨ ∃ a, mo c = some a ∧ X a) ∧ ∀ a, X a → ¬ tk a c) ∧ pl c = f)))) (fun _ t => va_P (dC, dI) clA [(f0, .inr (2, [.int (nI pfc), .ref f1, .ref f2, .ref f3, .ref f4, .ref f5, .int (nI pfe), .ref f6, .ref f7, .ref f8, .ref f9, .ref f10, .int pfu, .int pfw])), (f1, .inl (cI, 60, .inl fpl)), (f2, .inl (cI, 60, .inl fmk)), (f3, .inl (cI, 60, .inl ftk))] t.heap ∧ va_D (va_A [(f0, .inr (2, [.int (nI pfc), .ref f1, .ref f2, .ref f3, .ref f4, .ref f5, .int (nI pfe), .ref f6, .ref f7, .ref f8, .ref f9, .ref f10, .int pfu, .int pfw])), (f1, .inl (cI, 60, .inl fpl)), (f2, .inl (cI, 60, .inl fmk)), (f3, .inl (cI, 60, .inl ftk))] sz) [(f0, .inr (2, [.int (nI pfc), .ref f1, .ref f2, .ref f3, .ref f4, .ref f5, .int (nI pfe), .ref f6, .ref f7, .ref f8, .ref f9, .ref f10, .int pfu, .int pfw])), (f1, .inl (cI, 60, .inl fpl)), (f2, .inl (cI, 60, .inl fmk)), (f3, .inl (cI, 60, .inl ftk))]) (va_A [(f0, .inr (2, [.int (nI pfc), .ref f1, .ref f2, .ref f3, .ref f4, .ref f5, .int (nI pfe), .ref f6, .ref f7, .ref f8, .ref f9, .ref f10, .int pfu, .int pfw])), (f1, .inl (cI, 60, .inl fpl)), (f2, .inl (cI, 60, .inl fmk)), (f3, .inl (cI, 60, .inl ftk))] sz)) 0 0 (va_A [(f0, .inr (2, [.int (nI pfc), .ref f1, .ref f2, .ref f3, .ref f4, .ref f5, .int (nI pfe), .ref f6, .ref f7, .ref f8, .ref f9, .ref f10, .int pfu, .int pfw])), (f1, .inl (cI, 60, .inl fpl)), (f2, .inl (cI, 60, .inl fmk)), (f3, .inl (cI, 60, .inl ftk))] sz) := by
  refine Met.ofW (cc := prog_5_method_9_code) (maxL := 5) (ret := (some .int)) (by decide) rfl ?_
  intro p e s m args below meth c s₁ B hml hv
  obtain ⟨rfl, hsz, hP, hK, hD0, hN⟩ := hv
  have hx := B.exec
  have hb := B.bytes
  have hr := B.returns
  have ht : ∀ w ∈ wsA, w.before _ s = true := fun w h => atoms_spec (ws := (Cond.code y_Pf_markingOf prog_5_method_9_code 5 (some .int) :: wsA)) B.pre w (List.mem_cons_of_mem _ h)
  have hown : s.vm.findClass "NetUnfolder$Prefix" = some m.cls := findClass_of_methodNamed B.named
  have hlocks := B.notSynchronized
  subst hsz
  have hD := hD0.self (sz := s.heap.size)
  generalize hAe : va_A [(f0, .inr (2, [.int (nI pfc), .ref f1, .ref f2, .ref f3, .ref f4, .ref f5, .int (nI pfe), .ref f6, .ref f7, .ref f8, .ref f9, .ref f10, .int pfu, .int pfw])), (f1, .inl (cI, 60, .inl fpl)), (f2, .inl (cI, 60, .inl fmk)), (f3, .inl (cI, 60, .inl ftk))] s.heap.size = A at hD ⊢
  have hA : ∀ q : Nat, s.heap.size ≤ q → A q := fun q h => by rw [← hAe]; exact Or.inr h
  have hS : va_S A s.heap s.heap [] := va_S.rf
  have hl := lv_entry ([.ref f0, .int x]) (n := 5) (Nat.le_of_ble_eq_true rfl)
  rw [lg_entry_eq]
  generalize (lg_sl ([.ref f0, .int x]) ++ List.replicate (5 - (lg_sl ([.ref f0, .int x])).length) Slot.unset).toArray = ls at hl ⊢
  replace hl : lv_has ls 5 [(0, .ref f0), (1, .int x)] := hl
  refine W_Q (fun Q hQ => ?_)
  refine lv_iconst (v := 0) hx hb d_Pf_markingOf_0 (by decide) ?_
  refine lv_istore_n (lv' := [(2, .int 0), (0, .ref f0), (1, .int x)]) hx hb d_Pf_markingOf_1 rfl hl (by decide) rfl (fun ls hln => ?_)
  replace hl : lv_has ls 5 [(2, .int 0), (0, .ref f0), (1, .int x)] := hln
  clear hln
  refine lv_iconst (v := 0) hx hb d_Pf_markingOf_2 (by decide) ?_
  refine lv_istore_n (lv' := [(3, .int 0), (2, .int 0), (0, .ref f0), (1, .int x)]) hx hb d_Pf_markingOf_3 rfl hl (by decide) rfl (fun ls hln => ?_)
  replace hl : lv_has ls 5 [(3, .int 0), (2, .int 0), (0, .ref f0), (1, .int x)] := hln
  clear hln
  have hloop1 : ∀ (n4 : Nat) (v : Int32) (i : Nat) (hi : i ≤ pfc) (hv : B32 v (fun f => ∃ c, c < i ∧ (((mo c = none ∨ ∃ a, mo c = some a ∧ X a) ∧ ∀ a, X a → ¬ tk a c) ∧ pl c = f))) (H : Heap) (locs : List Loc) (ls : Array Slot) (hl : lv_has ls 5 [(0, .ref f0), (1, .int x), (2, .int v), (3, .int (nI i))]) (hP : va_P (dC, dI) clA [(f0, .inr (2, [.int (nI pfc), .ref f1, .ref f2, .ref f3, .ref f4, .ref f5, .int (nI pfe), .ref f6, .ref f7, .ref f8, .ref f9, .ref f10, .int pfu, .int pfw])), (f1, .inl (cI, 60, .inl fpl)), (f2, .inl (cI, 60, .inl fmk)), (f3, .inl (cI, 60, .inl ftk))] H) (hD : va_D A [(f0, .inr (2, [.int (nI pfc), .ref f1, .ref f2, .ref f3, .ref f4, .ref f5, .int (nI pfe), .ref f6, .ref f7, .ref f8, .ref f9, .ref f10, .int pfu, .int pfw])), (f1, .inl (cI, 60, .inl fpl)), (f2, .inl (cI, 60, .inl fmk)), (f3, .inl (cI, 60, .inl ftk))]) (hS : va_S A s.heap H locs) (hm4 : pfc - i < n4), W p l e (headSpec (Cond.code y_Pf_markingOf prog_5_method_9_code 5 (some .int) :: wsA) { frames := 1, cells := 0, slots := 0, locals := 22 }).room s m ([.ref f0, .int x] : List Value).toArray below meth c H locs 0 0 Q (F0 m 4 ls []) := by
    clear hl hP hD hS
    intro n4
    induction n4 with
    | zero => intro v i hi hv H locs ls hl hP hD hS hm; exact absurd hm (Nat.not_lt_zero _)
    | succ n4 hloop1_ih =>
      intro v i hi hv H locs ls hl hP hD hS hm4
      refine lv_iload_n hx hb d_Pf_markingOf_4 rfl (lv_at hl 3 rfl) ?_
      refine lv_aload_n hx hb d_Pf_markingOf_5 rfl (lv_at hl 0 rfl) ?_
      refine va_get (D := (dC, dI)) (ci := 2) (v := .int (nI pfc)) (C := "NetUnfolder$Prefix") (T := T_Pf) (N := 14) hx hb ht in_Pf hown hK hP 0 rfl rfl 0 (by decide) (ht _ wd_1_62) (fun _ h9 => h9) rfl d_Pf_markingOf_6 ?_
      refine lv_icmp_ge (tgt := 76) hx hb d_Pf_markingOf_9 (by decide) (fun hb2 => ?_) (fun hb2 => ?_)
      · skip
        replace hb2 := cv_le (a := pfc) (b := i) (by omega) (by omega) hb2
        refine lv_iload_n hx hb d_Pf_markingOf_76 rfl (lv_at hl 2 rfl) ?_
        have hP9 := hP.sub (ws' := [(f0, .inr (2, [.int (nI pfc), .ref f1, .ref f2, .ref f3, .ref f4, .ref f5, .int (nI pfe), .ref f6, .ref f7, .ref f8, .ref f9, .ref f10, .int pfu, .int pfw])), (f1, .inl (cI, 60, .inl fpl)), (f2, .inl (cI, 60, .inl fmk)), (f3, .inl (cI, 60, .inl ftk))]) [0, 1, 2, 3] rfl
        have hD9 := hD.sub (ws' := [(f0, .inr (2, [.int (nI pfc), .ref f1, .ref f2, .ref f3, .ref f4, .ref f5, .int (nI pfe), .ref f6, .ref f7, .ref f8, .ref f9, .ref f10, .int pfu, .int pfw])), (f1, .inl (cI, 60, .inl fpl)), (f2, .inl (cI, 60, .inl fmk)), (f3, .inl (cI, 60, .inl ftk))]) [0, 1, 2, 3] (by decide) rfl
        subst hQ
        exact W.iret (v := v) hx hb hr (fun t9 ht9 hW => ⟨⟨v, (), rfl, (hv.congr (fun f => by have e9 : i = pfc := (by omega); rw [e9])), by rw [ht9]; exact hP9, hD9⟩, hS.F ht9⟩) hS.2.2 d_Pf_markingOf_77
      · skip
        replace hb2 := cv_nle (a := pfc) (b := i) (by omega) (by omega) hb2
        refine lv_aload_n hx hb d_Pf_markingOf_12 rfl (lv_at hl 0 rfl) ?_
        refine va_get (D := (dC, dI)) (ci := 2) (v := .ref f2) (C := "NetUnfolder$Prefix") (T := T_Pf) (N := 14) hx hb ht in_Pf hown hK hP 0 rfl rfl 2 (by decide) (ht _ wd_1_70) (fun _ h9 => h9) rfl d_Pf_markingOf_13 ?_
        refine lv_iload_n hx hb d_Pf_markingOf_16 rfl (lv_at hl 3 rfl) ?_
        refine na_iald (k := i) hx hb hK hP 2 0 rfl rfl (by omega) (by decide) d_Pf_markingOf_17 ?_
        refine lv_iconst (v := (-1)) hx hb d_Pf_markingOf_18 (by decide) ?_
        refine lv_icmp_eq (tgt := 36) hx hb d_Pf_markingOf_19 (by decide) (fun hb3 => ?_) (fun hb3 => ?_)
        · skip
          have hmd : (mo i = none ∨ ∃ a, mo i = some a ∧ X a) := Or.inl (hMak.no (by omega) hb3)
          refine lv_iconst (v := 1) hx hb d_Pf_markingOf_36 (by decide) ?_
          refine lv_goto (tgt := 41) hx hb d_Pf_markingOf_37 (by decide) ?_
          refine lv_istore (lv' := [(4, .int 1), (0, .ref f0), (1, .int x), (2, .int v), (3, .int (nI i))]) hx hb d_Pf_markingOf_41 hl (by decide) rfl (fun ls hln => ?_)
          replace hl : lv_has ls 5 [(4, .int 1), (0, .ref f0), (1, .int x), (2, .int v), (3, .int (nI i))] := hln
          clear hln
          refine lv_iload hx hb d_Pf_markingOf_43 (lv_at hl 0 rfl) ?_
          refine lv_if_eq (tgt := 70) hx hb d_Pf_markingOf_45 (by decide) (fun h => absurd h (by decide)) (fun _ => ?_)
          refine lv_aload_n hx hb d_Pf_markingOf_48 rfl (lv_at hl 1 rfl) ?_
          refine va_get (D := (dC, dI)) (ci := 2) (v := .ref f3) (C := "NetUnfolder$Prefix") (T := T_Pf) (N := 14) hx hb ht in_Pf hown hK hP 0 rfl rfl 3 (by decide) (ht _ wd_1_73) (fun _ h9 => h9) rfl d_Pf_markingOf_49 ?_
          refine lv_iload_n hx hb d_Pf_markingOf_52 rfl (lv_at hl 4 rfl) ?_
          refine na_iald (k := i) hx hb hK hP 3 0 rfl rfl (by omega) (by decide) d_Pf_markingOf_53 ?_
          refine lv_iload_n hx hb d_Pf_markingOf_54 rfl (lv_at hl 2 rfl) ?_
          refine lv_iand hx hb d_Pf_markingOf_55 ?_
          refine lv_if_ne (tgt := 70) hx hb d_Pf_markingOf_56 (by decide) (fun hb4 => ?_) (fun hb4 => ?_)
          · skip
            refine lv_iinc (k := 4) (v := nI (i + 1)) (lv' := [(3, .int (nI (i + 1))), (4, .int 1), (0, .ref f0), (1, .int x), (2, .int v)]) hx hb d_Pf_markingOf_70 hl rfl (nI_1 _) (by decide) rfl (fun ls hln => ?_)
            replace hl : lv_has ls 5 [(3, .int (nI (i + 1))), (4, .int 1), (0, .ref f0), (1, .int x), (2, .int v)] := hln
            clear hln
            refine lv_goto (tgt := 4) hx hb d_Pf_markingOf_73 (by decide) ?_
            exact hloop1_ih v (i + 1) (by first | assumption | omega | trivial | exact AllLt.zero | exact AllN.zero | exact AllM.zero | exact Or.inl rfl | exact Or.inr rfl) (a32_skip hv (fun f q => mad_t (hTak i (by omega)) hXB hb4 q.1.2)) _ _ ls (lv_sub hl [2, 3, 4, 0] rfl) (hP.sub [0, 1, 2, 3] rfl) (hD.sub [0, 1, 2, 3] (by decide) rfl) hS (by omega)
          · skip
            have htk : ∀ a, X a → ¬ tk a i := fun a ha q => (((hTak i (by omega)).and hXB).nz.mp hb4) a ⟨q, ha⟩
            refine lv_iload_n hx hb d_Pf_markingOf_59 rfl (lv_at hl 3 rfl) ?_
            refine lv_iconst (v := 1) hx hb d_Pf_markingOf_60 (by decide) ?_
            refine lv_aload_n hx hb d_Pf_markingOf_61 rfl (lv_at hl 1 rfl) ?_
            refine va_get (D := (dC, dI)) (ci := 2) (v := .ref f1) (C := "NetUnfolder$Prefix") (T := T_Pf) (N := 14) hx hb ht in_Pf hown hK hP 0 rfl rfl 1 (by decide) (ht _ wd_1_66) (fun _ h9 => h9) rfl d_Pf_markingOf_62 ?_
            refine lv_iload_n hx hb d_Pf_markingOf_65 rfl (lv_at hl 4 rfl) ?_
            refine na_iald (k := i) hx hb hK hP 1 0 rfl rfl (by omega) (by decide) d_Pf_markingOf_66 ?_
            refine ci_i (y := nI (pl i)) (hPla i (by omega)).1 ?_
            refine lv_ishl hx hb d_Pf_markingOf_67 ?_
            refine lv_ior hx hb d_Pf_markingOf_68 ?_
            refine lv_istore_n (lv' := [(2, .int (v ||| (1 <<< ((nI (pl i)) &&& 31)))), (4, .int 1), (0, .ref f0), (1, .int x), (3, .int (nI i))]) hx hb d_Pf_markingOf_69 rfl hl (by decide) rfl (fun ls hln => ?_)
            replace hl : lv_has ls 5 [(2, .int (v ||| (1 <<< ((nI (pl i)) &&& 31)))), (4, .int 1), (0, .ref f0), (1, .int x), (3, .int (nI i))] := hln
            clear hln
            refine lv_iinc (k := 4) (v := nI (i + 1)) (lv' := [(3, .int (nI (i + 1))), (2, .int (v ||| (1 <<< ((nI (pl i)) &&& 31)))), (4, .int 1), (0, .ref f0), (1, .int x)]) hx hb d_Pf_markingOf_70 hl rfl (nI_1 _) (by decide) rfl (fun ls hln => ?_)
            replace hl : lv_has ls 5 [(3, .int (nI (i + 1))), (2, .int (v ||| (1 <<< ((nI (pl i)) &&& 31)))), (4, .int 1), (0, .ref f0), (1, .int x)] := hln
            clear hln
            refine lv_goto (tgt := 4) hx hb d_Pf_markingOf_73 (by decide) ?_
            exact hloop1_ih (v ||| (1 <<< ((nI (pl i)) &&& 31))) (i + 1) (by first | assumption | omega | trivial | exact AllLt.zero | exact AllN.zero | exact AllM.zero | exact Or.inl rfl | exact Or.inr rfl) (a32_or hv ((B32.bit (by have := (hPla i (by omega)).2; omega)).congr (fun f => ⟨fun q => ⟨⟨hmd, htk⟩, q.symm⟩, fun q => q.2.symm⟩))) _ _ ls (lv_sub hl [3, 4, 1, 0] rfl) (hP.sub [0, 1, 2, 3] rfl) (hD.sub [0, 1, 2, 3] (by decide) rfl) hS (by omega)
        · skip
          refine lv_iload_n hx hb d_Pf_markingOf_22 rfl (lv_at hl 1 rfl) ?_
          refine lv_i2l (v := Int32.toInt64 x) hx hb d_Pf_markingOf_23 rfl ?_
          refine lv_aload_n hx hb d_Pf_markingOf_24 rfl (lv_at hl 0 rfl) ?_
          refine va_get (D := (dC, dI)) (ci := 2) (v := .ref f2) (C := "NetUnfolder$Prefix") (T := T_Pf) (N := 14) hx hb ht in_Pf hown hK hP 0 rfl rfl 2 (by decide) (ht _ wd_1_70) (fun _ h9 => h9) rfl d_Pf_markingOf_25 ?_
          refine lv_iload_n hx hb d_Pf_markingOf_28 rfl (lv_at hl 3 rfl) ?_
          refine na_iald (k := i) hx hb hK hP 2 0 rfl rfl (by omega) (by decide) d_Pf_markingOf_29 ?_
          obtain ⟨q5, q5_l, q5_e, q5_m⟩ := hMak.yes (c := i) (by omega) hb3
          refine ci_i (y := nI q5) q5_e ?_
          have hPc : va_P (dC, dI) clA [] _ := pu_P (H := H)
          have hDc : va_D (fun _ => True) [] := pu_D
          have hFc := pu_free hS hA
          refine va_calli (va_runSN (As := [.long (Int32.toInt64 x), .int (nI q5)]) (rest := []) ⟨hx, hb, hml, hown, ht⟩ (c_NU_has l dC dI cI cL cZ _ (Int32.toInt64 x) q5 (by first | assumption | omega | trivial | exact AllLt.zero | exact AllN.zero | exact AllM.zero | exact Or.inl rfl | exact Or.inr rfl)) ⟨va_cnB 2 ht (goodA wd_2_102) rfl rfl rfl hN.2.2.2.2.1 (ht _ wd_1_1) (by decide +kernel) ⟨Nat.le_of_ble_eq_true rfl, Nat.le_of_ble_eq_true rfl⟩, ht _ wd_2_101, trivial⟩ ⟨fun a U g mk q => by obtain ⟨q0, q1, qP, qK, qD, qN⟩ := q; exact ⟨q0, q1, qP, va_K.moved (u := U) (U := U.calling g mk a) (Vm.Alike.refl U.vm) qK, qD, NwA.same (u := U) rfl qN⟩, fun U hU hW => ⟨rfl, by rw [hU], by rw [hU]; exact hPc, va_K.moved hW.alike hK, hDc.weaken (fun _ _ _ _ => trivial), NwA.warm hW hN⟩⟩ rfl rfl hl.1 rfl (lv_room (Nat.le_of_ble_eq_true rfl)) d_Pf_markingOf_30 ⟨Nat.le_of_ble_eq_true rfl, Nat.le_of_ble_eq_true rfl⟩) hS (fun q _ h => hFc q h) hFc (fun r8 u9 t9 H6 locs ht9 hvm hw7 hB hz1 hk1 hSn => ?_)
          replace hP : va_P (dC, dI) clA [(f0, .inr (2, [.int (nI pfc), .ref f1, .ref f2, .ref f3, .ref f4, .ref f5, .int (nI pfe), .ref f6, .ref f7, .ref f8, .ref f9, .ref f10, .int pfu, .int pfw])), (f1, .inl (cI, 60, .inl fpl)), (f2, .inl (cI, 60, .inl fmk)), (f3, .inl (cI, 60, .inl ftk))] H6 := pu_keep hP hk1
          replace hS := hSn
          clear hSn hPc hDc hFc hk1 hz1 ht9 hvm hB
          refine W.cs (cells' := 0) (slots' := 0) rfl rfl ?_
          subst hw7
          refine lv_if_eq (tgt := 40) hx hb d_Pf_markingOf_33 (by decide) (fun hb9 => ?_) (fun hb9 => ?_)
          · skip
            refine lv_iconst (v := 0) hx hb d_Pf_markingOf_40 (by decide) ?_
            refine lv_istore (lv' := [(4, .int 0), (0, .ref f0), (1, .int x), (2, .int v), (3, .int (nI i))]) hx hb d_Pf_markingOf_41 hl (by decide) rfl (fun ls hln => ?_)
            replace hl : lv_has ls 5 [(4, .int 0), (0, .ref f0), (1, .int x), (2, .int v), (3, .int (nI i))] := hln
            clear hln
            refine lv_iload hx hb d_Pf_markingOf_43 (lv_at hl 0 rfl) ?_
            refine lv_if_eq (tgt := 70) hx hb d_Pf_markingOf_45 (by decide) (fun _ => ?_) (fun h => (h (by decide)).elim)
            refine lv_iinc (k := 4) (v := nI (i + 1)) (lv' := [(3, .int (nI (i + 1))), (4, .int 0), (0, .ref f0), (1, .int x), (2, .int v)]) hx hb d_Pf_markingOf_70 hl rfl (nI_1 _) (by decide) rfl (fun ls hln => ?_)
            replace hl : lv_has ls 5 [(3, .int (nI (i + 1))), (4, .int 0), (0, .ref f0), (1, .int x), (2, .int v)] := hln
            clear hln
            refine lv_goto (tgt := 4) hx hb d_Pf_markingOf_73 (by decide) ?_
            exact hloop1_ih v (i + 1) (by first | assumption | omega | trivial | exact AllLt.zero | exact AllN.zero | exact AllM.zero | exact Or.inl rfl | exact Or.inr rfl) (a32_skip hv (fun f q => mad_n q5_m (B32.has hXB hX31 |>.mp hb9) q.1.1)) _ _ ls (lv_sub hl [2, 3, 4, 0] rfl) (hP.sub [0, 1, 2, 3] rfl) (hD.sub [0, 1, 2, 3] (by decide) rfl) hS (by omega)
          · skip
            have hmd : (mo i = none ∨ ∃ a, mo i = some a ∧ X a) := Or.inr ⟨q5, q5_m, Classical.byContradiction (fun z => hb9 ((B32.has hXB hX31).mpr z))⟩
            refine lv_iconst (v := 1) hx hb d_Pf_markingOf_36 (by decide) ?_
            refine lv_goto (tgt := 41) hx hb d_Pf_markingOf_37 (by decide) ?_
            refine lv_istore (lv' := [(4, .int 1), (0, .ref f0), (1, .int x), (2, .int v), (3, .int (nI i))]) hx hb d_Pf_markingOf_41 hl (by decide) rfl (fun ls hln => ?_)
            replace hl : lv_has ls 5 [(4, .int 1), (0, .ref f0), (1, .int x), (2, .int v), (3, .int (nI i))] := hln
            clear hln
            refine lv_iload hx hb d_Pf_markingOf_43 (lv_at hl 0 rfl) ?_
            refine lv_if_eq (tgt := 70) hx hb d_Pf_markingOf_45 (by decide) (fun h => absurd h (by decide)) (fun _ => ?_)
            refine lv_aload_n hx hb d_Pf_markingOf_48 rfl (lv_at hl 1 rfl) ?_
            refine va_get (D := (dC, dI)) (ci := 2) (v := .ref f3) (C := "NetUnfolder$Prefix") (T := T_Pf) (N := 14) hx hb ht in_Pf hown hK hP 0 rfl rfl 3 (by decide) (ht _ wd_1_73) (fun _ h9 => h9) rfl d_Pf_markingOf_49 ?_
            refine lv_iload_n hx hb d_Pf_markingOf_52 rfl (lv_at hl 4 rfl) ?_
            refine na_iald (k := i) hx hb hK hP 3 0 rfl rfl (by omega) (by decide) d_Pf_markingOf_53 ?_
            refine lv_iload_n hx hb d_Pf_markingOf_54 rfl (lv_at hl 2 rfl) ?_
            refine lv_iand hx hb d_Pf_markingOf_55 ?_
            refine lv_if_ne (tgt := 70) hx hb d_Pf_markingOf_56 (by decide) (fun hb10 => ?_) (fun hb10 => ?_)
            · skip
              refine lv_iinc (k := 4) (v := nI (i + 1)) (lv' := [(3, .int (nI (i + 1))), (4, .int 1), (0, .ref f0), (1, .int x), (2, .int v)]) hx hb d_Pf_markingOf_70 hl rfl (nI_1 _) (by decide) rfl (fun ls hln => ?_)
              replace hl : lv_has ls 5 [(3, .int (nI (i + 1))), (4, .int 1), (0, .ref f0), (1, .int x), (2, .int v)] := hln
              clear hln
              refine lv_goto (tgt := 4) hx hb d_Pf_markingOf_73 (by decide) ?_
              exact hloop1_ih v (i + 1) (by first | assumption | omega | trivial | exact AllLt.zero | exact AllN.zero | exact AllM.zero | exact Or.inl rfl | exact Or.inr rfl) (a32_skip hv (fun f q => mad_t (hTak i (by omega)) hXB hb10 q.1.2)) _ _ ls (lv_sub hl [2, 3, 4, 0] rfl) (hP.sub [0, 1, 2, 3] rfl) (hD.sub [0, 1, 2, 3] (by decide) rfl) hS (by omega)
            · skip
              have htk : ∀ a, X a → ¬ tk a i := fun a ha q => (((hTak i (by omega)).and hXB).nz.mp hb10) a ⟨q, ha⟩
              refine lv_iload_n hx hb d_Pf_markingOf_59 rfl (lv_at hl 3 rfl) ?_
              refine lv_iconst (v := 1) hx hb d_Pf_markingOf_60 (by decide) ?_
              refine lv_aload_n hx hb d_Pf_markingOf_61 rfl (lv_at hl 1 rfl) ?_
              refine va_get (D := (dC, dI)) (ci := 2) (v := .ref f1) (C := "NetUnfolder$Prefix") (T := T_Pf) (N := 14) hx hb ht in_Pf hown hK hP 0 rfl rfl 1 (by decide) (ht _ wd_1_66) (fun _ h9 => h9) rfl d_Pf_markingOf_62 ?_
              refine lv_iload_n hx hb d_Pf_markingOf_65 rfl (lv_at hl 4 rfl) ?_
              refine na_iald (k := i) hx hb hK hP 1 0 rfl rfl (by omega) (by decide) d_Pf_markingOf_66 ?_
              refine ci_i (y := nI (pl i)) (hPla i (by omega)).1 ?_
              refine lv_ishl hx hb d_Pf_markingOf_67 ?_
              refine lv_ior hx hb d_Pf_markingOf_68 ?_
              refine lv_istore_n (lv' := [(2, .int (v ||| (1 <<< ((nI (pl i)) &&& 31)))), (4, .int 1), (0, .ref f0), (1, .int x), (3, .int (nI i))]) hx hb d_Pf_markingOf_69 rfl hl (by decide) rfl (fun ls hln => ?_)
              replace hl : lv_has ls 5 [(2, .int (v ||| (1 <<< ((nI (pl i)) &&& 31)))), (4, .int 1), (0, .ref f0), (1, .int x), (3, .int (nI i))] := hln
              clear hln
              refine lv_iinc (k := 4) (v := nI (i + 1)) (lv' := [(3, .int (nI (i + 1))), (2, .int (v ||| (1 <<< ((nI (pl i)) &&& 31)))), (4, .int 1), (0, .ref f0), (1, .int x)]) hx hb d_Pf_markingOf_70 hl rfl (nI_1 _) (by decide) rfl (fun ls hln => ?_)
              replace hl : lv_has ls 5 [(3, .int (nI (i + 1))), (2, .int (v ||| (1 <<< ((nI (pl i)) &&& 31)))), (4, .int 1), (0, .ref f0), (1, .int x)] := hln
              clear hln
              refine lv_goto (tgt := 4) hx hb d_Pf_markingOf_73 (by decide) ?_
              exact hloop1_ih (v ||| (1 <<< ((nI (pl i)) &&& 31))) (i + 1) (by first | assumption | omega | trivial | exact AllLt.zero | exact AllN.zero | exact AllM.zero | exact Or.inl rfl | exact Or.inr rfl) (a32_or hv ((B32.bit (by have := (hPla i (by omega)).2; omega)).congr (fun f => ⟨fun q => ⟨⟨hmd, htk⟩, q.symm⟩, fun q => q.2.symm⟩))) _ _ ls (lv_sub hl [3, 4, 1, 0] rfl) (hP.sub [0, 1, 2, 3] rfl) (hD.sub [0, 1, 2, 3] (by decide) rfl) hS (by omega)
  exact hloop1 ((pfc - 0) + 1) 0 0 (by first | assumption | omega | trivial | exact AllLt.zero | exact AllN.zero | exact AllM.zero | exact Or.inl rfl | exact Or.inr rfl) a32_0 _ _ ls (lv_sub hl [2, 3, 1, 0] rfl) hP hD hS (Nat.lt_succ_self _)
