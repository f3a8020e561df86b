set_option maxHeartbeats 4000000 in
set_option maxRecDepth 100000 in
theorem e_Pf_rankOf (l : Launch) (dC : Nat → ClassId) (dI : Nat → Nat → Nat) (cI cL cZ : ClassId) (sz : Nat) (f0 : Nat) (f1 : Nat) (f2 : Nat) (f3 : Nat) (f4 : Nat) (f5 : Nat) (f6 : Nat) (f7 : Nat) (f8 : Nat) (f9 : Nat) (f10 : Nat) (pfc : Nat) (pfe : Nat) (pfu : Int32) (pfw : Int32) (ftr : Nat → Int32) (k : Nat) (x : Int32) (X : Nat → Prop) (tr : Nat → Nat) (hpe : pfe ≤ 30) (hk : k < 8) (hTra : TraI pfe ftr tr) (hXB : B32 x X) (hX30 : ∀ a, X a → a < pfe) : Met l y_Pf_rankOf (Cond.code y_Pf_rankOf prog_5_method_10_code 8 (some .long) :: wsA) { frames := 1, cells := 0, slots := 0, locals := 22 } (va_Pc [.ref f0, .int (nI k), .int x] (fun U => U.heap.size = sz ∧ va_P (dC, dI) clA [(f0, .inr (2, [.int (nI pfc), .ref f1, .ref f2, .ref f3, .ref f4, .ref f5, .int (nI pfe), .ref f6, .ref f7, .ref f8, .ref f9, .ref f10, .int pfu, .int pfw])), (f6, .inl (cI, 30, .inl ftr))] U.heap ∧ va_K (dC, dI) clA [(cI, .int), (cL, .long), (cZ, .boolean)] U ∧ va_D (fun _ => True) [(f0, .inr (2, [.int (nI pfc), .ref f1, .ref f2, .ref f3, .ref f4, .ref f5, .int (nI pfe), .ref f6, .ref f7, .ref f8, .ref f9, .ref f10, .int pfu, .int pfw])), (f6, .inl (cI, 30, .inl ftr))] ∧ NwA U)) (va_Ql (fun r (_ : Unit) => (r = lN (keyX X tr k pfe (szX X pfe + 1) 8))) (fun _ t => va_P (dC, dI) clA [(f0, .inr (2, [.int (nI pfc), .ref f1, .ref f2, .ref f3, .ref f4, .ref f5, .int (nI pfe), .ref f6, .ref f7, .ref f8, .ref f9, .ref f10, .int pfu, .int pfw])), (f6, .inl (cI, 30, .inl ftr))] t.heap ∧ va_D (va_A [(f0, .inr (2, [.int (nI pfc), .ref f1, .ref f2, .ref f3, .ref f4, .ref f5, .int (nI pfe), .ref f6, .ref f7, .ref f8, .ref f9, .ref f10, .int pfu, .int pfw])), (f6, .inl (cI, 30, .inl ftr))] sz) [(f0, .inr (2, [.int (nI pfc), .ref f1, .ref f2, .ref f3, .ref f4, .ref f5, .int (nI pfe), .ref f6, .ref f7, .ref f8, .ref f9, .ref f10, .int pfu, .int pfw])), (f6, .inl (cI, 30, .inl ftr))]) (va_A [(f0, .inr (2, [.int (nI pfc), .ref f1, .ref f2, .ref f3, .ref f4, .ref f5, .int (nI pfe), .ref f6, .ref f7, .ref f8, .ref f9, .ref f10, .int pfu, .int pfw])), (f6, .inl (cI, 30, .inl ftr))] sz)) 0 0 (va_A [(f0, .inr (2, [.int (nI pfc), .ref f1, .ref f2, .ref f3, .ref f4, .ref f5, .int (nI pfe), .ref f6, .ref f7, .ref f8, .ref f9, .ref f10, .int pfu, .int pfw])), (f6, .inl (cI, 30, .inl ftr))] sz) := by
  refine Met.ofW (cc := prog_5_method_10_code) (maxL := 8) (ret := (some .long)) (by decide) rfl ?_
  intro p e s m args below meth c s₁ B hml hv
  obtain ⟨rfl, hsz, hP, hK, hD0, hN⟩ := hv
  have hx := B.exec
  have hb := B.bytes
  have hr := B.returns
  have ht : ∀ w ∈ wsA, w.before _ s = true := fun w h => atoms_spec (ws := (Cond.code y_Pf_rankOf prog_5_method_10_code 8 (some .long) :: wsA)) B.pre w (List.mem_cons_of_mem _ h)
  have hown : s.vm.findClass "NetUnfolder$Prefix" = some m.cls := findClass_of_methodNamed B.named
  have hlocks := B.notSynchronized
  subst hsz
  have hD := hD0.self (sz := s.heap.size)
  generalize hAe : va_A [(f0, .inr (2, [.int (nI pfc), .ref f1, .ref f2, .ref f3, .ref f4, .ref f5, .int (nI pfe), .ref f6, .ref f7, .ref f8, .ref f9, .ref f10, .int pfu, .int pfw])), (f6, .inl (cI, 30, .inl ftr))] s.heap.size = A at hD ⊢
  have hA : ∀ q : Nat, s.heap.size ≤ q → A q := fun q h => by rw [← hAe]; exact Or.inr h
  have hS : va_S A s.heap s.heap [] := va_S.rf
  have hl := lv_entry ([.ref f0, .int (nI k), .int x]) (n := 8) (Nat.le_of_ble_eq_true rfl)
  rw [lg_entry_eq]
  generalize (lg_sl ([.ref f0, .int (nI k), .int x]) ++ List.replicate (8 - (lg_sl ([.ref f0, .int (nI k), .int x])).length) Slot.unset).toArray = ls at hl ⊢
  replace hl : lv_has ls 8 [(0, .ref f0), (1, .int (nI k)), (2, .int x)] := hl
  refine W_Q (fun Q hQ => ?_)
  have hpx := pc32_X hXB hX30 (by omega)
  have hp32 := pc32_le x
  refine lv_iload_n hx hb d_Pf_rankOf_0 rfl (lv_at hl 2 rfl) ?_
  have hPc : va_P (dC, dI) clA [] _ := pu_P (H := s.heap)
  have hDc : va_D (fun _ => True) [] := pu_D
  have hFc := pu_free hS hA
  refine va_calli (va_runS (As := [.int x]) (rest := []) ⟨hx, hb, hml, hown, ht⟩ (e_Ig_bitCount l dC dI cI cL cZ _ x ) (va_cwS 1 ht (good_S wd_2_124 wd_2_125 wd_1_17 wd_2_126) rfl rfl rfl (by decide +kernel) ⟨Nat.le_of_ble_eq_true rfl, Nat.le_of_ble_eq_true rfl⟩) ⟨fun a U g mk q => by obtain ⟨q0, q1, qP, qK, qD, qN⟩ := q; exact ⟨q0, q1, qP, va_K.moved (u := U) (U := U.calling g mk a) (Vm.Alike.refl U.vm) qK, qD, NwA.same (u := U) rfl qN⟩, fun U hU hW => ⟨rfl, by rw [hU], by rw [hU]; exact hPc, va_K.moved hW.alike hK, hDc.weaken (fun _ _ _ _ => trivial), NwA.warm hW hN⟩⟩ rfl rfl hl.1 rfl (lv_room (Nat.le_of_ble_eq_true rfl)) d_Pf_rankOf_1 ⟨Nat.le_of_ble_eq_true rfl, Nat.le_of_ble_eq_true rfl⟩) hS (fun q _ h => hFc q h) hFc (fun r3 u9 t9 H1 locs ht9 hvm hw2 hB hz1 hk1 hSn => ?_)
  replace hP : va_P (dC, dI) clA [(f0, .inr (2, [.int (nI pfc), .ref f1, .ref f2, .ref f3, .ref f4, .ref f5, .int (nI pfe), .ref f6, .ref f7, .ref f8, .ref f9, .ref f10, .int pfu, .int pfw])), (f6, .inl (cI, 30, .inl ftr))] H1 := pu_keep hP hk1
  replace hS := hSn
  clear hSn hPc hDc hFc hk1 hz1 ht9 hvm hB
  refine W.cs (cells' := 0) (slots' := 0) rfl rfl ?_
  subst hw2
  refine lv_iconst (v := 1) hx hb d_Pf_rankOf_4 (by decide) ?_
  refine lv_iadd hx hb d_Pf_rankOf_5 ?_
  refine ci_i (y := nI (pc32 x + 1)) (cv_add (pc32 x) 1) ?_
  refine lv_i2l (v := Int32.toInt64 (nI (pc32 x + 1))) hx hb d_Pf_rankOf_6 rfl ?_
  refine ci_l (y := lN (keyX X tr k pfe (szX X pfe + 1) 0)) (rk_0 hpx hp32) ?_
  refine lv_lstore_n (lv' := [(3, .long (lN (keyX X tr k pfe (szX X pfe + 1) 0))), (0, .ref f0), (1, .int (nI k)), (2, .int x)]) hx hb d_Pf_rankOf_7 rfl hl (by decide) rfl (fun ls hln => ?_)
  replace hl : lv_has ls 8 [(3, .long (lN (keyX X tr k pfe (szX X pfe + 1) 0))), (0, .ref f0), (1, .int (nI k)), (2, .int x)] := hln
  clear hln
  refine lv_iconst (v := 0) hx hb d_Pf_rankOf_8 (by decide) ?_
  refine lv_istore (lv' := [(5, .int 0), (3, .long (lN (keyX X tr k pfe (szX X pfe + 1) 0))), (0, .ref f0), (1, .int (nI k)), (2, .int x)]) hx hb d_Pf_rankOf_9 hl (by decide) rfl (fun ls hln => ?_)
  replace hl : lv_has ls 8 [(5, .int 0), (3, .long (lN (keyX X tr k pfe (szX X pfe + 1) 0))), (0, .ref f0), (1, .int (nI k)), (2, .int x)] := hln
  clear hln
  have hloop4 : ∀ (n11 : Nat) (v : Int64) (i : Nat) (hi : i ≤ 8) (hv : v = lN (keyX X tr k pfe (szX X pfe + 1) i)) (H : Heap) (locs : List Loc) (ls : Array Slot) (hl : lv_has ls 8 [(0, .ref f0), (1, .int (nI k)), (2, .int x), (3, .long v), (5, .int (nI i))]) (hP : va_P (dC, dI) clA [(f0, .inr (2, [.int (nI pfc), .ref f1, .ref f2, .ref f3, .ref f4, .ref f5, .int (nI pfe), .ref f6, .ref f7, .ref f8, .ref f9, .ref f10, .int pfu, .int pfw])), (f6, .inl (cI, 30, .inl ftr))] H) (hD : va_D A [(f0, .inr (2, [.int (nI pfc), .ref f1, .ref f2, .ref f3, .ref f4, .ref f5, .int (nI pfe), .ref f6, .ref f7, .ref f8, .ref f9, .ref f10, .int pfu, .int pfw])), (f6, .inl (cI, 30, .inl ftr))]) (hS : va_S A s.heap H locs) (hm11 : 8 - i < n11), W p l e (headSpec (Cond.code y_Pf_rankOf prog_5_method_10_code 8 (some .long) :: wsA) { frames := 1, cells := 0, slots := 0, locals := 22 }).room s m ([.ref f0, .int (nI k), .int x] : List Value).toArray below meth c H locs 0 0 Q (F0 m 11 ls []) := by
    clear hl hP hD hS
    intro n11
    induction n11 with
    | zero => intro v i hi hv H locs ls hl hP hD hS hm; exact absurd hm (Nat.not_lt_zero _)
    | succ n11 hloop4_ih =>
      intro v i hi hv H locs ls hl hP hD hS hm11
      refine lv_iload hx hb d_Pf_rankOf_11 (lv_at hl 4 rfl) ?_
      refine lv_bipush (v := 8) hx hb d_Pf_rankOf_13 (by decide) ?_
      refine lv_icmp_ge (tgt := 91) hx hb d_Pf_rankOf_15 (by decide) (fun hb5 => ?_) (fun hb5 => ?_)
      · skip
        replace hb5 := cv_le (a := 8) (b := i) (by omega) (by omega) hb5
        refine lv_lload_n hx hb d_Pf_rankOf_91 rfl (lv_at hl 3 rfl) ?_
        have hP9 := hP.sub (ws' := [(f0, .inr (2, [.int (nI pfc), .ref f1, .ref f2, .ref f3, .ref f4, .ref f5, .int (nI pfe), .ref f6, .ref f7, .ref f8, .ref f9, .ref f10, .int pfu, .int pfw])), (f6, .inl (cI, 30, .inl ftr))]) [0, 1] rfl
        have hD9 := hD.sub (ws' := [(f0, .inr (2, [.int (nI pfc), .ref f1, .ref f2, .ref f3, .ref f4, .ref f5, .int (nI pfe), .ref f6, .ref f7, .ref f8, .ref f9, .ref f10, .int pfu, .int pfw])), (f6, .inl (cI, 30, .inl ftr))]) [0, 1] (by decide) rfl
        subst hQ
        exact W.lret (v := v) hx hb hr (fun t9 ht9 hW => ⟨⟨v, (), rfl, (by have e9 : i = 8 := (by omega); rw [hv, e9]), by rw [ht9]; exact hP9, hD9⟩, hS.F ht9⟩) hS.2.2 d_Pf_rankOf_92
      · skip
        replace hb5 := cv_nle (a := 8) (b := i) (by omega) (by omega) hb5
        refine lv_iload hx hb d_Pf_rankOf_18 (lv_at hl 4 rfl) ?_
        refine lv_iload_n hx hb d_Pf_rankOf_20 rfl (lv_at hl 1 rfl) ?_
        refine lv_icmp_ne (tgt := 28) hx hb d_Pf_rankOf_21 (by decide) (fun hb6 => ?_) (fun hb6 => ?_)
        · skip
          replace hb6 := cv_ne (a := i) (b := k) (by omega) (by omega) hb6
          refine lv_iconst (v := 0) hx hb d_Pf_rankOf_28 (by decide) ?_
          refine lv_istore (lv' := [(6, .int 0), (0, .ref f0), (1, .int (nI k)), (2, .int x), (3, .long v), (5, .int (nI i))]) hx hb d_Pf_rankOf_29 hl (by decide) rfl (fun ls hln => ?_)
          replace hl : lv_has ls 8 [(6, .int 0), (0, .ref f0), (1, .int (nI k)), (2, .int x), (3, .long v), (5, .int (nI i))] := hln
          clear hln
          refine lv_iconst (v := 0) hx hb d_Pf_rankOf_31 (by decide) ?_
          refine lv_istore (lv' := [(7, .int 0), (6, .int 0), (0, .ref f0), (1, .int (nI k)), (2, .int x), (3, .long v), (5, .int (nI i))]) hx hb d_Pf_rankOf_32 hl (by decide) rfl (fun ls hln => ?_)
          replace hl : lv_has ls 8 [(7, .int 0), (6, .int 0), (0, .ref f0), (1, .int (nI k)), (2, .int x), (3, .long v), (5, .int (nI i))] := hln
          clear hln
          have hloop7 : ∀ (n34 : Nat) (tm : Nat) (j : Nat) (hj : j ≤ pfe) (htm : tm = cuX X tr k j i) (H : Heap) (locs : List Loc) (ls : Array Slot) (hl : lv_has ls 8 [(0, .ref f0), (1, .int (nI k)), (2, .int x), (3, .long v), (5, .int (nI i)), (6, .int (nI tm)), (7, .int (nI j))]) (hP : va_P (dC, dI) clA [(f0, .inr (2, [.int (nI pfc), .ref f1, .ref f2, .ref f3, .ref f4, .ref f5, .int (nI pfe), .ref f6, .ref f7, .ref f8, .ref f9, .ref f10, .int pfu, .int pfw])), (f6, .inl (cI, 30, .inl ftr))] H) (hD : va_D A [(f0, .inr (2, [.int (nI pfc), .ref f1, .ref f2, .ref f3, .ref f4, .ref f5, .int (nI pfe), .ref f6, .ref f7, .ref f8, .ref f9, .ref f10, .int pfu, .int pfw])), (f6, .inl (cI, 30, .inl ftr))]) (hS : va_S A s.heap H locs) (hm34 : pfe - j < n34), W p l e (headSpec (Cond.code y_Pf_rankOf prog_5_method_10_code 8 (some .long) :: wsA) { frames := 1, cells := 0, slots := 0, locals := 22 }).room s m ([.ref f0, .int (nI k), .int x] : List Value).toArray below meth c H locs 0 0 Q (F0 m 34 ls []) := by
            clear hl hP hD hS
            intro n34
            induction n34 with
            | zero => intro tm j hj htm H locs ls hl hP hD hS hm; exact absurd hm (Nat.not_lt_zero _)
            | succ n34 hloop7_ih =>
              intro tm j hj htm H locs ls hl hP hD hS hm34
              have htl := cuX_le (X := X) (tr := tr) (k := k) (n := j) (u := i)
              refine lv_iload hx hb d_Pf_rankOf_34 (lv_at hl 6 rfl) ?_
              refine lv_aload_n hx hb d_Pf_rankOf_36 rfl (lv_at hl 0 rfl) ?_
              refine va_get (D := (dC, dI)) (ci := 2) (v := .int (nI pfe)) (C := "NetUnfolder$Prefix") (T := T_Pf) (N := 14) hx hb ht in_Pf hown hK hP 0 rfl rfl 6 (by decide) (ht _ wd_1_82) (fun _ h9 => h9) rfl d_Pf_rankOf_37 ?_
              refine lv_icmp_ge (tgt := 74) hx hb d_Pf_rankOf_40 (by decide) (fun hb8 => ?_) (fun hb8 => ?_)
              · skip
                replace hb8 := cv_le (a := pfe) (b := j) (by omega) (by omega) hb8
                have hj9 : j = pfe := by omega
                refine lv_lload_n hx hb d_Pf_rankOf_74 rfl (lv_at hl 3 rfl) ?_
                refine lv_iconst (v := 5) hx hb d_Pf_rankOf_75 (by decide) ?_
                refine lv_lshl (v := v <<< (Int32.toInt64 5 &&& 63)) hx hb d_Pf_rankOf_76 rfl ?_
                refine lv_bipush (v := 31) hx hb d_Pf_rankOf_77 (by decide) ?_
                refine lv_iload hx hb d_Pf_rankOf_79 (lv_at hl 5 rfl) ?_
                refine lv_isub hx hb d_Pf_rankOf_81 ?_
                refine ci_i (y := nI (31 - tm)) (cv_sub (a := 31) (b := tm) (by omega)) ?_
                refine lv_i2l (v := Int32.toInt64 (nI (31 - tm))) hx hb d_Pf_rankOf_82 rfl ?_
                refine lv_lor hx hb d_Pf_rankOf_83 ?_
                refine lv_lstore_n (lv' := [(3, .long ((v <<< (Int32.toInt64 5 &&& 63)) ||| (Int32.toInt64 (nI (31 - tm))))), (0, .ref f0), (1, .int (nI k)), (2, .int x), (5, .int (nI i)), (6, .int (nI tm)), (7, .int (nI j))]) hx hb d_Pf_rankOf_84 rfl hl (by decide) rfl (fun ls hln => ?_)
                replace hl : lv_has ls 8 [(3, .long ((v <<< (Int32.toInt64 5 &&& 63)) ||| (Int32.toInt64 (nI (31 - tm))))), (0, .ref f0), (1, .int (nI k)), (2, .int x), (5, .int (nI i)), (6, .int (nI tm)), (7, .int (nI j))] := hln
                clear hln
                refine lv_iinc (k := 4) (v := nI (i + 1)) (lv' := [(5, .int (nI (i + 1))), (3, .long ((v <<< (Int32.toInt64 5 &&& 63)) ||| (Int32.toInt64 (nI (31 - tm))))), (0, .ref f0), (1, .int (nI k)), (2, .int x), (6, .int (nI tm)), (7, .int (nI j))]) hx hb d_Pf_rankOf_85 hl rfl (nI_1 _) (by decide) rfl (fun ls hln => ?_)
                replace hl : lv_has ls 8 [(5, .int (nI (i + 1))), (3, .long ((v <<< (Int32.toInt64 5 &&& 63)) ||| (Int32.toInt64 (nI (31 - tm))))), (0, .ref f0), (1, .int (nI k)), (2, .int x), (6, .int (nI tm)), (7, .int (nI j))] := hln
                clear hln
                refine lv_goto (tgt := 11) hx hb d_Pf_rankOf_88 (by decide) ?_
                exact hloop4_ih ((v <<< (Int32.toInt64 5 &&& 63)) ||| (Int32.toInt64 (nI (31 - tm)))) (i + 1) (by first | assumption | omega | trivial | exact AllLt.zero | exact AllN.zero | exact AllM.zero | exact Or.inl rfl | exact Or.inr rfl) (by rw [hv, key_sh (keyX_lt (by omega) (by omega)) (by omega), keyX_s, htm, hj9]) _ _ ls (lv_sub hl [2, 3, 4, 1, 0] rfl) (hP.sub [0, 1] rfl) (hD.sub [0, 1] (by decide) rfl) hS (by omega)
              · skip
                replace hb8 := cv_nle (a := pfe) (b := j) (by omega) (by omega) hb8
                refine lv_iload_n hx hb d_Pf_rankOf_43 rfl (lv_at hl 2 rfl) ?_
                refine lv_i2l (v := Int32.toInt64 x) hx hb d_Pf_rankOf_44 rfl ?_
                refine lv_iload hx hb d_Pf_rankOf_45 (lv_at hl 6 rfl) ?_
                have hPc : va_P (dC, dI) clA [] _ := pu_P (H := H)
                have hDc : va_D (fun _ => True) [] := pu_D
                have hFc := pu_free hS hA
                refine va_calli (va_runSN (As := [.long (Int32.toInt64 x), .int (nI j)]) (rest := []) ⟨hx, hb, hml, hown, ht⟩ (c_NU_has l dC dI cI cL cZ _ (Int32.toInt64 x) j (by first | assumption | omega | trivial | exact AllLt.zero | exact AllN.zero | exact AllM.zero | exact Or.inl rfl | exact Or.inr rfl)) ⟨va_cnB 2 ht (goodA wd_2_102) rfl rfl rfl hN.2.2.2.2.1 (ht _ wd_1_1) (by decide +kernel) ⟨Nat.le_of_ble_eq_true rfl, Nat.le_of_ble_eq_true rfl⟩, ht _ wd_2_101, trivial⟩ ⟨fun a U g mk q => by obtain ⟨q0, q1, qP, qK, qD, qN⟩ := q; exact ⟨q0, q1, qP, va_K.moved (u := U) (U := U.calling g mk a) (Vm.Alike.refl U.vm) qK, qD, NwA.same (u := U) rfl qN⟩, fun U hU hW => ⟨rfl, by rw [hU], by rw [hU]; exact hPc, va_K.moved hW.alike hK, hDc.weaken (fun _ _ _ _ => trivial), NwA.warm hW hN⟩⟩ rfl rfl hl.1 rfl (lv_room (Nat.le_of_ble_eq_true rfl)) d_Pf_rankOf_47 ⟨Nat.le_of_ble_eq_true rfl, Nat.le_of_ble_eq_true rfl⟩) hS (fun q _ h => hFc q h) hFc (fun r11 u9 t9 H9 locs ht9 hvm hw10 hB hz1 hk1 hSn => ?_)
                replace hP : va_P (dC, dI) clA [(f0, .inr (2, [.int (nI pfc), .ref f1, .ref f2, .ref f3, .ref f4, .ref f5, .int (nI pfe), .ref f6, .ref f7, .ref f8, .ref f9, .ref f10, .int pfu, .int pfw])), (f6, .inl (cI, 30, .inl ftr))] H9 := pu_keep hP hk1
                replace hS := hSn
                clear hSn hPc hDc hFc hk1 hz1 ht9 hvm hB
                refine W.cs (cells' := 0) (slots' := 0) rfl rfl ?_
                subst hw10
                refine lv_if_eq (tgt := 68) hx hb d_Pf_rankOf_50 (by decide) (fun hb12 => ?_) (fun hb12 => ?_)
                · skip
                  refine lv_iinc (k := 6) (v := nI (j + 1)) (lv' := [(7, .int (nI (j + 1))), (0, .ref f0), (1, .int (nI k)), (2, .int x), (3, .long v), (5, .int (nI i)), (6, .int (nI tm))]) hx hb d_Pf_rankOf_68 hl rfl (nI_1 _) (by decide) rfl (fun ls hln => ?_)
                  replace hl : lv_has ls 8 [(7, .int (nI (j + 1))), (0, .ref f0), (1, .int (nI k)), (2, .int x), (3, .long v), (5, .int (nI i)), (6, .int (nI tm))] := hln
                  clear hln
                  refine lv_goto (tgt := 34) hx hb d_Pf_rankOf_71 (by decide) ?_
                  exact hloop7_ih tm (j + 1) (by first | assumption | omega | trivial | exact AllLt.zero | exact AllN.zero | exact AllM.zero | exact Or.inl rfl | exact Or.inr rfl) (by rw [cuX_n (fun q => (B32.has hXB (fun a ha => by have := hX30 a ha; omega)).mp hb12 q.1), htm]) _ _ ls (lv_sub hl [1, 2, 3, 4, 5, 6, 0] rfl) (hP.sub [0, 1] rfl) (hD.sub [0, 1] (by decide) rfl) hS (by omega)
                · skip
                  have hXj : X j := Classical.byContradiction (fun z => hb12 ((B32.has hXB (fun a ha => by have := hX30 a ha; omega)).mpr z))
                  refine lv_aload_n hx hb d_Pf_rankOf_53 rfl (lv_at hl 0 rfl) ?_
                  refine va_get (D := (dC, dI)) (ci := 2) (v := .ref f6) (C := "NetUnfolder$Prefix") (T := T_Pf) (N := 14) hx hb ht in_Pf hown hK hP 0 rfl rfl 7 (by decide) (ht _ wd_1_86) (fun _ h9 => h9) rfl d_Pf_rankOf_54 ?_
                  refine lv_iload hx hb d_Pf_rankOf_57 (lv_at hl 6 rfl) ?_
                  refine na_iald (k := j) hx hb hK hP 1 0 rfl rfl (by omega) (by decide) d_Pf_rankOf_59 ?_
                  refine ci_i (y := nI (tr j)) (hTra j (by omega)).1 ?_
                  have htj := (hTra j (by omega)).2
                  refine lv_iload hx hb d_Pf_rankOf_60 (lv_at hl 4 rfl) ?_
                  refine lv_icmp_ne (tgt := 68) hx hb d_Pf_rankOf_62 (by decide) (fun hb13 => ?_) (fun hb13 => ?_)
                  · skip
                    replace hb13 := cv_ne (a := tr j) (b := i) (by omega) (by omega) hb13
                    refine lv_iinc (k := 6) (v := nI (j + 1)) (lv' := [(7, .int (nI (j + 1))), (0, .ref f0), (1, .int (nI k)), (2, .int x), (3, .long v), (5, .int (nI i)), (6, .int (nI tm))]) hx hb d_Pf_rankOf_68 hl rfl (nI_1 _) (by decide) rfl (fun ls hln => ?_)
                    replace hl : lv_has ls 8 [(7, .int (nI (j + 1))), (0, .ref f0), (1, .int (nI k)), (2, .int x), (3, .long v), (5, .int (nI i)), (6, .int (nI tm))] := hln
                    clear hln
                    refine lv_goto (tgt := 34) hx hb d_Pf_rankOf_71 (by decide) ?_
                    exact hloop7_ih tm (j + 1) (by first | assumption | omega | trivial | exact AllLt.zero | exact AllN.zero | exact AllM.zero | exact Or.inl rfl | exact Or.inr rfl) (by rw [cuX_n (fun q => hb13 q.2), htm]) _ _ ls (lv_sub hl [1, 2, 3, 4, 5, 6, 0] rfl) (hP.sub [0, 1] rfl) (hD.sub [0, 1] (by decide) rfl) hS (by omega)
                  · skip
                    replace hb13 := cv_eq (a := tr j) (b := i) (by omega) (by omega) hb13
                    refine lv_iinc (k := 5) (v := nI (tm + 1)) (lv' := [(6, .int (nI (tm + 1))), (0, .ref f0), (1, .int (nI k)), (2, .int x), (3, .long v), (5, .int (nI i)), (7, .int (nI j))]) hx hb d_Pf_rankOf_65 hl rfl (nI_1 _) (by decide) rfl (fun ls hln => ?_)
                    replace hl : lv_has ls 8 [(6, .int (nI (tm + 1))), (0, .ref f0), (1, .int (nI k)), (2, .int x), (3, .long v), (5, .int (nI i)), (7, .int (nI j))] := hln
                    clear hln
                    refine lv_iinc (k := 6) (v := nI (j + 1)) (lv' := [(7, .int (nI (j + 1))), (6, .int (nI (tm + 1))), (0, .ref f0), (1, .int (nI k)), (2, .int x), (3, .long v), (5, .int (nI i))]) hx hb d_Pf_rankOf_68 hl rfl (nI_1 _) (by decide) rfl (fun ls hln => ?_)
                    replace hl : lv_has ls 8 [(7, .int (nI (j + 1))), (6, .int (nI (tm + 1))), (0, .ref f0), (1, .int (nI k)), (2, .int x), (3, .long v), (5, .int (nI i))] := hln
                    clear hln
                    refine lv_goto (tgt := 34) hx hb d_Pf_rankOf_71 (by decide) ?_
                    exact hloop7_ih (tm + 1) (j + 1) (by first | assumption | omega | trivial | exact AllLt.zero | exact AllN.zero | exact AllM.zero | exact Or.inl rfl | exact Or.inr rfl) (by rw [cuX_y hXj (by omega), htm]) _ _ ls (lv_sub hl [2, 3, 4, 5, 6, 1, 0] rfl) (hP.sub [0, 1] rfl) (hD.sub [0, 1] (by decide) rfl) hS (by omega)
          exact hloop7 ((pfe - 0) + 1) 0 0 (by first | assumption | omega | trivial | exact AllLt.zero | exact AllN.zero | exact AllM.zero | exact Or.inl rfl | exact Or.inr rfl) (by rw [cuX_0, if_neg (by omega)]) _ _ ls (lv_sub hl [2, 3, 4, 5, 6, 1, 0] rfl) hP hD hS (Nat.lt_succ_self _)
        · skip
          replace hb6 := cv_eq (a := i) (b := k) (by omega) (by omega) hb6
          refine lv_iconst (v := 1) hx hb d_Pf_rankOf_24 (by decide) ?_
          refine lv_goto (tgt := 29) hx hb d_Pf_rankOf_25 (by decide) ?_
          refine lv_istore (lv' := [(6, .int 1), (0, .ref f0), (1, .int (nI k)), (2, .int x), (3, .long v), (5, .int (nI i))]) hx hb d_Pf_rankOf_29 hl (by decide) rfl (fun ls hln => ?_)
          replace hl : lv_has ls 8 [(6, .int 1), (0, .ref f0), (1, .int (nI k)), (2, .int x), (3, .long v), (5, .int (nI i))] := hln
          clear hln
          refine lv_iconst (v := 0) hx hb d_Pf_rankOf_31 (by decide) ?_
          refine lv_istore (lv' := [(7, .int 0), (6, .int 1), (0, .ref f0), (1, .int (nI k)), (2, .int x), (3, .long v), (5, .int (nI i))]) hx hb d_Pf_rankOf_32 hl (by decide) rfl (fun ls hln => ?_)
          replace hl : lv_has ls 8 [(7, .int 0), (6, .int 1), (0, .ref f0), (1, .int (nI k)), (2, .int x), (3, .long v), (5, .int (nI i))] := hln
          clear hln
          have hloop14 : ∀ (n34 : Nat) (tm : Nat) (j : Nat) (hj : j ≤ pfe) (htm : tm = cuX X tr k j i) (H : Heap) (locs : List Loc) (ls : Array Slot) (hl : lv_has ls 8 [(0, .ref f0), (1, .int (nI k)), (2, .int x), (3, .long v), (5, .int (nI i)), (6, .int (nI tm)), (7, .int (nI j))]) (hP : va_P (dC, dI) clA [(f0, .inr (2, [.int (nI pfc), .ref f1, .ref f2, .ref f3, .ref f4, .ref f5, .int (nI pfe), .ref f6, .ref f7, .ref f8, .ref f9, .ref f10, .int pfu, .int pfw])), (f6, .inl (cI, 30, .inl ftr))] H) (hD : va_D A [(f0, .inr (2, [.int (nI pfc), .ref f1, .ref f2, .ref f3, .ref f4, .ref f5, .int (nI pfe), .ref f6, .ref f7, .ref f8, .ref f9, .ref f10, .int pfu, .int pfw])), (f6, .inl (cI, 30, .inl ftr))]) (hS : va_S A s.heap H locs) (hm34 : pfe - j < n34), W p l e (headSpec (Cond.code y_Pf_rankOf prog_5_method_10_code 8 (some .long) :: wsA) { frames := 1, cells := 0, slots := 0, locals := 22 }).room s m ([.ref f0, .int (nI k), .int x] : List Value).toArray below meth c H locs 0 0 Q (F0 m 34 ls []) := by
            clear hl hP hD hS
            intro n34
            induction n34 with
            | zero => intro tm j hj htm H locs ls hl hP hD hS hm; exact absurd hm (Nat.not_lt_zero _)
            | succ n34 hloop14_ih =>
              intro tm j hj htm H locs ls hl hP hD hS hm34
              have htl := cuX_le (X := X) (tr := tr) (k := k) (n := j) (u := i)
              refine lv_iload hx hb d_Pf_rankOf_34 (lv_at hl 6 rfl) ?_
              refine lv_aload_n hx hb d_Pf_rankOf_36 rfl (lv_at hl 0 rfl) ?_
              refine va_get (D := (dC, dI)) (ci := 2) (v := .int (nI pfe)) (C := "NetUnfolder$Prefix") (T := T_Pf) (N := 14) hx hb ht in_Pf hown hK hP 0 rfl rfl 6 (by decide) (ht _ wd_1_82) (fun _ h9 => h9) rfl d_Pf_rankOf_37 ?_
              refine lv_icmp_ge (tgt := 74) hx hb d_Pf_rankOf_40 (by decide) (fun hb15 => ?_) (fun hb15 => ?_)
              · skip
                replace hb15 := cv_le (a := pfe) (b := j) (by omega) (by omega) hb15
                have hj9 : j = pfe := by omega
                refine lv_lload_n hx hb d_Pf_rankOf_74 rfl (lv_at hl 3 rfl) ?_
                refine lv_iconst (v := 5) hx hb d_Pf_rankOf_75 (by decide) ?_
                refine lv_lshl (v := v <<< (Int32.toInt64 5 &&& 63)) hx hb d_Pf_rankOf_76 rfl ?_
                refine lv_bipush (v := 31) hx hb d_Pf_rankOf_77 (by decide) ?_
                refine lv_iload hx hb d_Pf_rankOf_79 (lv_at hl 5 rfl) ?_
                refine lv_isub hx hb d_Pf_rankOf_81 ?_
                refine ci_i (y := nI (31 - tm)) (cv_sub (a := 31) (b := tm) (by omega)) ?_
                refine lv_i2l (v := Int32.toInt64 (nI (31 - tm))) hx hb d_Pf_rankOf_82 rfl ?_
                refine lv_lor hx hb d_Pf_rankOf_83 ?_
                refine lv_lstore_n (lv' := [(3, .long ((v <<< (Int32.toInt64 5 &&& 63)) ||| (Int32.toInt64 (nI (31 - tm))))), (0, .ref f0), (1, .int (nI k)), (2, .int x), (5, .int (nI i)), (6, .int (nI tm)), (7, .int (nI j))]) hx hb d_Pf_rankOf_84 rfl hl (by decide) rfl (fun ls hln => ?_)
                replace hl : lv_has ls 8 [(3, .long ((v <<< (Int32.toInt64 5 &&& 63)) ||| (Int32.toInt64 (nI (31 - tm))))), (0, .ref f0), (1, .int (nI k)), (2, .int x), (5, .int (nI i)), (6, .int (nI tm)), (7, .int (nI j))] := hln
                clear hln
                refine lv_iinc (k := 4) (v := nI (i + 1)) (lv' := [(5, .int (nI (i + 1))), (3, .long ((v <<< (Int32.toInt64 5 &&& 63)) ||| (Int32.toInt64 (nI (31 - tm))))), (0, .ref f0), (1, .int (nI k)), (2, .int x), (6, .int (nI tm)), (7, .int (nI j))]) hx hb d_Pf_rankOf_85 hl rfl (nI_1 _) (by decide) rfl (fun ls hln => ?_)
                replace hl : lv_has ls 8 [(5, .int (nI (i + 1))), (3, .long ((v <<< (Int32.toInt64 5 &&& 63)) ||| (Int32.toInt64 (nI (31 - tm))))), (0, .ref f0), (1, .int (nI k)), (2, .int x), (6, .int (nI tm)), (7, .int (nI j))] := hln
                clear hln
                refine lv_goto (tgt := 11) hx hb d_Pf_rankOf_88 (by decide) ?_
                exact hloop4_ih ((v <<< (Int32.toInt64 5 &&& 63)) ||| (Int32.toInt64 (nI (31 - tm)))) (i + 1) (by first | assumption | omega | trivial | exact AllLt.zero | exact AllN.zero | exact AllM.zero | exact Or.inl rfl | exact Or.inr rfl) (by rw [hv, key_sh (keyX_lt (by omega) (by omega)) (by omega), keyX_s, htm, hj9]) _ _ ls (lv_sub hl [2, 3, 4, 1, 0] rfl) (hP.sub [0, 1] rfl) (hD.sub [0, 1] (by decide) rfl) hS (by omega)
              · skip
                replace hb15 := cv_nle (a := pfe) (b := j) (by omega) (by omega) hb15
                refine lv_iload_n hx hb d_Pf_rankOf_43 rfl (lv_at hl 2 rfl) ?_
                refine lv_i2l (v := Int32.toInt64 x) hx hb d_Pf_rankOf_44 rfl ?_
                refine lv_iload hx hb d_Pf_rankOf_45 (lv_at hl 6 rfl) ?_
                have hPc : va_P (dC, dI) clA [] _ := pu_P (H := H)
                have hDc : va_D (fun _ => True) [] := pu_D
                have hFc := pu_free hS hA
                refine va_calli (va_runSN (As := [.long (Int32.toInt64 x), .int (nI j)]) (rest := []) ⟨hx, hb, hml, hown, ht⟩ (c_NU_has l dC dI cI cL cZ _ (Int32.toInt64 x) j (by first | assumption | omega | trivial | exact AllLt.zero | exact AllN.zero | exact AllM.zero | exact Or.inl rfl | exact Or.inr rfl)) ⟨va_cnB 2 ht (goodA wd_2_102) rfl rfl rfl hN.2.2.2.2.1 (ht _ wd_1_1) (by decide +kernel) ⟨Nat.le_of_ble_eq_true rfl, Nat.le_of_ble_eq_true rfl⟩, ht _ wd_2_101, trivial⟩ ⟨fun a U g mk q => by obtain ⟨q0, q1, qP, qK, qD, qN⟩ := q; exact ⟨q0, q1, qP, va_K.moved (u := U) (U := U.calling g mk a) (Vm.Alike.refl U.vm) qK, qD, NwA.same (u := U) rfl qN⟩, fun U hU hW => ⟨rfl, by rw [hU], by rw [hU]; exact hPc, va_K.moved hW.alike hK, hDc.weaken (fun _ _ _ _ => trivial), NwA.warm hW hN⟩⟩ rfl rfl hl.1 rfl (lv_room (Nat.le_of_ble_eq_true rfl)) d_Pf_rankOf_47 ⟨Nat.le_of_ble_eq_true rfl, Nat.le_of_ble_eq_true rfl⟩) hS (fun q _ h => hFc q h) hFc (fun r18 u9 t9 H16 locs ht9 hvm hw17 hB hz1 hk1 hSn => ?_)
                replace hP : va_P (dC, dI) clA [(f0, .inr (2, [.int (nI pfc), .ref f1, .ref f2, .ref f3, .ref f4, .ref f5, .int (nI pfe), .ref f6, .ref f7, .ref f8, .ref f9, .ref f10, .int pfu, .int pfw])), (f6, .inl (cI, 30, .inl ftr))] H16 := pu_keep hP hk1
                replace hS := hSn
                clear hSn hPc hDc hFc hk1 hz1 ht9 hvm hB
                refine W.cs (cells' := 0) (slots' := 0) rfl rfl ?_
                subst hw17
                refine lv_if_eq (tgt := 68) hx hb d_Pf_rankOf_50 (by decide) (fun hb19 => ?_) (fun hb19 => ?_)
                · skip
                  refine lv_iinc (k := 6) (v := nI (j + 1)) (lv' := [(7, .int (nI (j + 1))), (0, .ref f0), (1, .int (nI k)), (2, .int x), (3, .long v), (5, .int (nI i)), (6, .int (nI tm))]) hx hb d_Pf_rankOf_68 hl rfl (nI_1 _) (by decide) rfl (fun ls hln => ?_)
                  replace hl : lv_has ls 8 [(7, .int (nI (j + 1))), (0, .ref f0), (1, .int (nI k)), (2, .int x), (3, .long v), (5, .int (nI i)), (6, .int (nI tm))] := hln
                  clear hln
                  refine lv_goto (tgt := 34) hx hb d_Pf_rankOf_71 (by decide) ?_
                  exact hloop14_ih tm (j + 1) (by first | assumption | omega | trivial | exact AllLt.zero | exact AllN.zero | exact AllM.zero | exact Or.inl rfl | exact Or.inr rfl) (by rw [cuX_n (fun q => (B32.has hXB (fun a ha => by have := hX30 a ha; omega)).mp hb19 q.1), htm]) _ _ ls (lv_sub hl [1, 2, 3, 4, 5, 6, 0] rfl) (hP.sub [0, 1] rfl) (hD.sub [0, 1] (by decide) rfl) hS (by omega)
                · skip
                  have hXj : X j := Classical.byContradiction (fun z => hb19 ((B32.has hXB (fun a ha => by have := hX30 a ha; omega)).mpr z))
                  refine lv_aload_n hx hb d_Pf_rankOf_53 rfl (lv_at hl 0 rfl) ?_
                  refine va_get (D := (dC, dI)) (ci := 2) (v := .ref f6) (C := "NetUnfolder$Prefix") (T := T_Pf) (N := 14) hx hb ht in_Pf hown hK hP 0 rfl rfl 7 (by decide) (ht _ wd_1_86) (fun _ h9 => h9) rfl d_Pf_rankOf_54 ?_
                  refine lv_iload hx hb d_Pf_rankOf_57 (lv_at hl 6 rfl) ?_
                  refine na_iald (k := j) hx hb hK hP 1 0 rfl rfl (by omega) (by decide) d_Pf_rankOf_59 ?_
                  refine ci_i (y := nI (tr j)) (hTra j (by omega)).1 ?_
                  have htj := (hTra j (by omega)).2
                  refine lv_iload hx hb d_Pf_rankOf_60 (lv_at hl 4 rfl) ?_
                  refine lv_icmp_ne (tgt := 68) hx hb d_Pf_rankOf_62 (by decide) (fun hb20 => ?_) (fun hb20 => ?_)
                  · skip
                    replace hb20 := cv_ne (a := tr j) (b := i) (by omega) (by omega) hb20
                    refine lv_iinc (k := 6) (v := nI (j + 1)) (lv' := [(7, .int (nI (j + 1))), (0, .ref f0), (1, .int (nI k)), (2, .int x), (3, .long v), (5, .int (nI i)), (6, .int (nI tm))]) hx hb d_Pf_rankOf_68 hl rfl (nI_1 _) (by decide) rfl (fun ls hln => ?_)
                    replace hl : lv_has ls 8 [(7, .int (nI (j + 1))), (0, .ref f0), (1, .int (nI k)), (2, .int x), (3, .long v), (5, .int (nI i)), (6, .int (nI tm))] := hln
                    clear hln
                    refine lv_goto (tgt := 34) hx hb d_Pf_rankOf_71 (by decide) ?_
                    exact hloop14_ih tm (j + 1) (by first | assumption | omega | trivial | exact AllLt.zero | exact AllN.zero | exact AllM.zero | exact Or.inl rfl | exact Or.inr rfl) (by rw [cuX_n (fun q => hb20 q.2), htm]) _ _ ls (lv_sub hl [1, 2, 3, 4, 5, 6, 0] rfl) (hP.sub [0, 1] rfl) (hD.sub [0, 1] (by decide) rfl) hS (by omega)
                  · skip
                    replace hb20 := cv_eq (a := tr j) (b := i) (by omega) (by omega) hb20
                    refine lv_iinc (k := 5) (v := nI (tm + 1)) (lv' := [(6, .int (nI (tm + 1))), (0, .ref f0), (1, .int (nI k)), (2, .int x), (3, .long v), (5, .int (nI i)), (7, .int (nI j))]) hx hb d_Pf_rankOf_65 hl rfl (nI_1 _) (by decide) rfl (fun ls hln => ?_)
                    replace hl : lv_has ls 8 [(6, .int (nI (tm + 1))), (0, .ref f0), (1, .int (nI k)), (2, .int x), (3, .long v), (5, .int (nI i)), (7, .int (nI j))] := hln
                    clear hln
                    refine lv_iinc (k := 6) (v := nI (j + 1)) (lv' := [(7, .int (nI (j + 1))), (6, .int (nI (tm + 1))), (0, .ref f0), (1, .int (nI k)), (2, .int x), (3, .long v), (5, .int (nI i))]) hx hb d_Pf_rankOf_68 hl rfl (nI_1 _) (by decide) rfl (fun ls hln => ?_)
                    replace hl : lv_has ls 8 [(7, .int (nI (j + 1))), (6, .int (nI (tm + 1))), (0, .ref f0), (1, .int (nI k)), (2, .int x), (3, .long v), (5, .int (nI i))] := hln
                    clear hln
                    refine lv_goto (tgt := 34) hx hb d_Pf_rankOf_71 (by decide) ?_
                    exact hloop14_ih (tm + 1) (j + 1) (by first | assumption | omega | trivial | exact AllLt.zero | exact AllN.zero | exact AllM.zero | exact Or.inl rfl | exact Or.inr rfl) (by rw [cuX_y hXj (by omega), htm]) _ _ ls (lv_sub hl [2, 3, 4, 5, 6, 1, 0] rfl) (hP.sub [0, 1] rfl) (hD.sub [0, 1] (by decide) rfl) hS (by omega)
          exact hloop14 ((pfe - 0) + 1) 1 0 (by first | assumption | omega | trivial | exact AllLt.zero | exact AllN.zero | exact AllM.zero | exact Or.inl rfl | exact Or.inr rfl) (by rw [cuX_0, if_pos (by omega)]) _ _ ls (lv_sub hl [2, 3, 4, 5, 6, 1, 0] rfl) hP hD hS (Nat.lt_succ_self _)
  exact hloop4 ((8 - 0) + 1) (lN (keyX X tr k pfe (szX X pfe + 1) 0)) 0 (by first | assumption | omega | trivial | exact AllLt.zero | exact AllN.zero | exact AllM.zero | exact Or.inl rfl | exact Or.inr rfl) rfl _ _ ls (lv_sub hl [2, 3, 4, 1, 0] rfl) hP hD hS (Nat.lt_succ_self _)
