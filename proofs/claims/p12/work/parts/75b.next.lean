set_option maxHeartbeats 4000000 in
set_option maxRecDepth 100000 in
theorem e_Po_next (l : Launch) (dC : Nat → ClassId) (dI : Nat → Nat → Nat) (cI cL cZ : ClassId) (sz : Nat) (o0 : Nat) (o1 : Nat) (o2 : Nat) (o3 : Nat) (f0 : Nat) (oz : Nat) (otr : Nat → Int32) (otn : Nat → Int64) (ork : Nat → Int64) (f1 : Nat) (f2 : Nat) (f3 : Nat) (f4 : Nat) (f5 : Nat) (f6 : Nat) (f7 : Nat) (f8 : Nat) (f9 : Nat) (f10 : Nat) (pfc : Nat) (pfe : Nat) (pfu : Int32) (pfw : Int32) (fop : Nat → Int64) (el : List Ent) (rk : Ent → Nat) (pl : Nat → Nat) (ps : Nat → List Nat) (nc : Nat) (htb : ∀ z ∈ el, z.1 < 8) (hlen : el.length ≤ 200) (hozl : oz = el.length) (hPos : PosI el otr otn ork rk) (hEnt : ∀ z ∈ el, EntI pl ps nc z) (h60 : nc ≤ 60) (hOp : ∀ p, p < 8 → B64 (fop p) (fun c => c < nc ∧ pl c = p)) (hrk : ∀ z ∈ el, rk z < 2 ^ 60) (ho1 : 1 ≤ oz) : Met l y_Po_next (Cond.code y_Po_next prog_4_method_6_code 3 (some .int) :: wsA) { frames := 1, cells := 0, slots := 0, locals := 27 } (va_Pc [.ref o0] (fun U => U.heap.size = sz ∧ va_P (dC, dI) clA [(o0, .inr (5, [.ref f0, .int (nI oz), .ref o1, .ref o2, .ref o3])), (o1, .inl (cI, 201, .inl otr)), (o2, .inl (cL, 201, .inr (.inl otn))), (o3, .inl (cL, 201, .inr (.inl ork))), (f0, .inr (2, [.int (nI pfc), .ref f1, .ref f2, .ref f3, .ref f4, .ref f5, .int (nI pfe), .ref f6, .ref f7, .ref f8, .ref f9, .ref f10, .int pfu, .int pfw])), (f5, .inl (cL, 8, .inr (.inl fop)))] U.heap ∧ va_K (dC, dI) clA [(cI, .int), (cL, .long), (cZ, .boolean)] U ∧ va_D (fun _ => True) [(o0, .inr (5, [.ref f0, .int (nI oz), .ref o1, .ref o2, .ref o3])), (o1, .inl (cI, 201, .inl otr)), (o2, .inl (cL, 201, .inr (.inl otn))), (o3, .inl (cL, 201, .inr (.inl ork))), (f0, .inr (2, [.int (nI pfc), .ref f1, .ref f2, .ref f3, .ref f4, .ref f5, .int (nI pfe), .ref f6, .ref f7, .ref f8, .ref f9, .ref f10, .int pfu, .int pfw])), (f5, .inl (cL, 8, .inr (.inl fop)))] ∧ NwA U)) (va_Qi (fun r (_ : Unit) => ∃ (k : Nat), (∃ (hk : k < el.length), ∀ j (hj : j < el.length), ¬ befR rk (el[j]) (el[k])) ∧ r = nI k) (fun _ t => va_P (dC, dI) clA [(o0, .inr (5, [.ref f0, .int (nI oz), .ref o1, .ref o2, .ref o3])), (o1, .inl (cI, 201, .inl otr)), (o2, .inl (cL, 201, .inr (.inl otn))), (o3, .inl (cL, 201, .inr (.inl ork))), (f0, .inr (2, [.int (nI pfc), .ref f1, .ref f2, .ref f3, .ref f4, .ref f5, .int (nI pfe), .ref f6, .ref f7, .ref f8, .ref f9, .ref f10, .int pfu, .int pfw])), (f5, .inl (cL, 8, .inr (.inl fop)))] t.heap ∧ va_D (va_A [(o0, .inr (5, [.ref f0, .int (nI oz), .ref o1, .ref o2, .ref o3])), (o1, .inl (cI, 201, .inl otr)), (o2, .inl (cL, 201, .inr (.inl otn))), (o3, .inl (cL, 201, .inr (.inl ork))), (f0, .inr (2, [.int (nI pfc), .ref f1, .ref f2, .ref f3, .ref f4, .ref f5, .int (nI pfe), .ref f6, .ref f7, .ref f8, .ref f9, .ref f10, .int pfu, .int pfw])), (f5, .inl (cL, 8, .inr (.inl fop)))] sz) [(o0, .inr (5, [.ref f0, .int (nI oz), .ref o1, .ref o2, .ref o3])), (o1, .inl (cI, 201, .inl otr)), (o2, .inl (cL, 201, .inr (.inl otn))), (o3, .inl (cL, 201, .inr (.inl ork))), (f0, .inr (2, [.int (nI pfc), .ref f1, .ref f2, .ref f3, .ref f4, .ref f5, .int (nI pfe), .ref f6, .ref f7, .ref f8, .ref f9, .ref f10, .int pfu, .int pfw])), (f5, .inl (cL, 8, .inr (.inl fop)))]) (va_A [(o0, .inr (5, [.ref f0, .int (nI oz), .ref o1, .ref o2, .ref o3])), (o1, .inl (cI, 201, .inl otr)), (o2, .inl (cL, 201, .inr (.inl otn))), (o3, .inl (cL, 201, .inr (.inl ork))), (f0, .inr (2, [.int (nI pfc), .ref f1, .ref f2, .ref f3, .ref f4, .ref f5, .int (nI pfe), .ref f6, .ref f7, .ref f8, .ref f9, .ref f10, .int pfu, .int pfw])), (f5, .inl (cL, 8, .inr (.inl fop)))] sz)) 0 0 (va_A [(o0, .inr (5, [.ref f0, .int (nI oz), .ref o1, .ref o2, .ref o3])), (o1, .inl (cI, 201, .inl otr)), (o2, .inl (cL, 201, .inr (.inl otn))), (o3, .inl (cL, 201, .inr (.inl ork))), (f0, .inr (2, [.int (nI pfc), .ref f1, .ref f2, .ref f3, .ref f4, .ref f5, .int (nI pfe), .ref f6, .ref f7, .ref f8, .ref f9, .ref f10, .int pfu, .int pfw])), (f5, .inl (cL, 8, .inr (.inl fop)))] sz) := by
  refine Met.ofW (cc := prog_4_method_6_code) (maxL := 3) (ret := (some .int)) (by decide) rfl ?_
  intro p e s m args below meth c s₁ B hml hv
  obtain ⟨rfl, hsz, hP, hK, hD0, hN⟩ := hv
  have hx := B.exec
  have hb := B.bytes
  have hr := B.returns
  have ht : ∀ w ∈ wsA, w.before _ s = true := fun w h => atoms_spec (ws := (Cond.code y_Po_next prog_4_method_6_code 3 (some .int) :: wsA)) B.pre w (List.mem_cons_of_mem _ h)
  have hown : s.vm.findClass "NetUnfolder$Possible" = some m.cls := findClass_of_methodNamed B.named
  have hlocks := B.notSynchronized
  subst hsz
  have hD := hD0.self (sz := s.heap.size)
  generalize hAe : va_A [(o0, .inr (5, [.ref f0, .int (nI oz), .ref o1, .ref o2, .ref o3])), (o1, .inl (cI, 201, .inl otr)), (o2, .inl (cL, 201, .inr (.inl otn))), (o3, .inl (cL, 201, .inr (.inl ork))), (f0, .inr (2, [.int (nI pfc), .ref f1, .ref f2, .ref f3, .ref f4, .ref f5, .int (nI pfe), .ref f6, .ref f7, .ref f8, .ref f9, .ref f10, .int pfu, .int pfw])), (f5, .inl (cL, 8, .inr (.inl fop)))] s.heap.size = A at hD ⊢
  have hA : ∀ q : Nat, s.heap.size ≤ q → A q := fun q h => by rw [← hAe]; exact Or.inr h
  have hS : va_S A s.heap s.heap [] := va_S.rf
  have hl := lv_entry ([.ref o0]) (n := 3) (Nat.le_of_ble_eq_true rfl)
  rw [lg_entry_eq]
  generalize (lg_sl ([.ref o0]) ++ List.replicate (3 - (lg_sl ([.ref o0])).length) Slot.unset).toArray = ls at hl ⊢
  replace hl : lv_has ls 3 [(0, .ref o0)] := hl
  refine W_Q (fun Q hQ => ?_)
  have h0l : 0 < el.length := by omega
  refine lv_iconst (v := 0) hx hb d_Po_next_0 (by decide) ?_
  refine lv_istore_n (lv' := [(1, .int 0), (0, .ref o0)]) hx hb d_Po_next_1 rfl hl (by decide) rfl (fun ls hln => ?_)
  replace hl : lv_has ls 3 [(1, .int 0), (0, .ref o0)] := hln
  clear hln
  refine lv_iconst (v := 1) hx hb d_Po_next_2 (by decide) ?_
  refine lv_istore_n (lv' := [(2, .int 1), (1, .int 0), (0, .ref o0)]) hx hb d_Po_next_3 rfl hl (by decide) rfl (fun ls hln => ?_)
  replace hl : lv_has ls 3 [(2, .int 1), (1, .int 0), (0, .ref o0)] := hln
  clear hln
  have hloop1 : ∀ (n4 : Nat) (b : Nat) (i : Nat) (hbel : b < el.length) (hi : i ≤ oz) (hmin : ∀ j (hj : j < el.length), j < i → ¬ befR rk (el[j]) (el[b])) (H : Heap) (locs : List Loc) (ls : Array Slot) (hl : lv_has ls 3 [(0, .ref o0), (1, .int (nI b)), (2, .int (nI i))]) (hP : va_P (dC, dI) clA [(o0, .inr (5, [.ref f0, .int (nI oz), .ref o1, .ref o2, .ref o3])), (o1, .inl (cI, 201, .inl otr)), (o2, .inl (cL, 201, .inr (.inl otn))), (o3, .inl (cL, 201, .inr (.inl ork))), (f0, .inr (2, [.int (nI pfc), .ref f1, .ref f2, .ref f3, .ref f4, .ref f5, .int (nI pfe), .ref f6, .ref f7, .ref f8, .ref f9, .ref f10, .int pfu, .int pfw])), (f5, .inl (cL, 8, .inr (.inl fop)))] H) (hD : va_D A [(o0, .inr (5, [.ref f0, .int (nI oz), .ref o1, .ref o2, .ref o3])), (o1, .inl (cI, 201, .inl otr)), (o2, .inl (cL, 201, .inr (.inl otn))), (o3, .inl (cL, 201, .inr (.inl ork))), (f0, .inr (2, [.int (nI pfc), .ref f1, .ref f2, .ref f3, .ref f4, .ref f5, .int (nI pfe), .ref f6, .ref f7, .ref f8, .ref f9, .ref f10, .int pfu, .int pfw])), (f5, .inl (cL, 8, .inr (.inl fop)))]) (hS : va_S A s.heap H locs) (hm4 : oz - i < n4), W p l e (headSpec (Cond.code y_Po_next prog_4_method_6_code 3 (some .int) :: wsA) { frames := 1, cells := 0, slots := 0, locals := 27 }).room s m ([.ref o0] : List Value).toArray below meth c H locs 0 0 Q (F0 m 4 ls []) := by
    clear hl hP hD hS
    intro n4
    induction n4 with
    | zero => intro b i hbel hi hmin H locs ls hl hP hD hS hm; exact absurd hm (Nat.not_lt_zero _)
    | succ n4 hloop1_ih =>
      intro b i hbel hi hmin H locs ls hl hP hD hS hm4
      refine lv_iload_n hx hb d_Po_next_4 rfl (lv_at hl 2 rfl) ?_
      refine lv_aload_n hx hb d_Po_next_5 rfl (lv_at hl 0 rfl) ?_
      refine va_get (D := (dC, dI)) (ci := 5) (v := .int (nI oz)) (C := "NetUnfolder$Possible") (T := T_Po) (N := 5) hx hb ht in_Po hown hK hP 0 rfl rfl 1 (by decide) (ht _ wd_1_165) (fun _ h9 => h9) rfl d_Po_next_6 ?_
      refine lv_icmp_ge (tgt := 29) hx hb d_Po_next_9 (by decide) (fun hb2 => ?_) (fun hb2 => ?_)
      · skip
        replace hb2 := cv_le (a := oz) (b := i) (by omega) (by omega) hb2
        refine lv_iload_n hx hb d_Po_next_29 rfl (lv_at hl 1 rfl) ?_
        have hP9 := hP.sub (ws' := [(o0, .inr (5, [.ref f0, .int (nI oz), .ref o1, .ref o2, .ref o3])), (o1, .inl (cI, 201, .inl otr)), (o2, .inl (cL, 201, .inr (.inl otn))), (o3, .inl (cL, 201, .inr (.inl ork))), (f0, .inr (2, [.int (nI pfc), .ref f1, .ref f2, .ref f3, .ref f4, .ref f5, .int (nI pfe), .ref f6, .ref f7, .ref f8, .ref f9, .ref f10, .int pfu, .int pfw])), (f5, .inl (cL, 8, .inr (.inl fop)))]) [0, 1, 2, 3, 4, 5] rfl
        have hD9 := hD.sub (ws' := [(o0, .inr (5, [.ref f0, .int (nI oz), .ref o1, .ref o2, .ref o3])), (o1, .inl (cI, 201, .inl otr)), (o2, .inl (cL, 201, .inr (.inl otn))), (o3, .inl (cL, 201, .inr (.inl ork))), (f0, .inr (2, [.int (nI pfc), .ref f1, .ref f2, .ref f3, .ref f4, .ref f5, .int (nI pfe), .ref f6, .ref f7, .ref f8, .ref f9, .ref f10, .int pfu, .int pfw])), (f5, .inl (cL, 8, .inr (.inl fop)))]) [0, 1, 2, 3, 4, 5] (by decide) rfl
        subst hQ
        exact W.iret (v := nI b) hx hb hr (fun t9 ht9 hW => ⟨⟨nI b, (), rfl, ⟨b, ⟨hbel, fun j hj => hmin j hj (by omega)⟩, rfl⟩, by rw [ht9]; exact hP9, hD9⟩, hS.F ht9⟩) hS.2.2 d_Po_next_30
      · skip
        replace hb2 := cv_nle (a := oz) (b := i) (by omega) (by omega) hb2
        refine lv_aload_n hx hb d_Po_next_12 rfl (lv_at hl 0 rfl) ?_
        refine lv_iload_n hx hb d_Po_next_13 rfl (lv_at hl 2 rfl) ?_
        refine lv_iload_n hx hb d_Po_next_14 rfl (lv_at hl 1 rfl) ?_
        have hPc := hP.sub (ws' := [(o0, .inr (5, [.ref f0, .int (nI oz), .ref o1, .ref o2, .ref o3])), (o1, .inl (cI, 201, .inl otr)), (o2, .inl (cL, 201, .inr (.inl otn))), (o3, .inl (cL, 201, .inr (.inl ork))), (f0, .inr (2, [.int (nI pfc), .ref f1, .ref f2, .ref f3, .ref f4, .ref f5, .int (nI pfe), .ref f6, .ref f7, .ref f8, .ref f9, .ref f10, .int pfu, .int pfw])), (f5, .inl (cL, 8, .inr (.inl fop)))]) [0, 1, 2, 3, 4, 5] rfl
        have hDc := hD.sub (ws' := [(o0, .inr (5, [.ref f0, .int (nI oz), .ref o1, .ref o2, .ref o3])), (o1, .inl (cI, 201, .inl otr)), (o2, .inl (cL, 201, .inr (.inl otn))), (o3, .inl (cL, 201, .inr (.inl ork))), (f0, .inr (2, [.int (nI pfc), .ref f1, .ref f2, .ref f3, .ref f4, .ref f5, .int (nI pfe), .ref f6, .ref f7, .ref f8, .ref f9, .ref f10, .int pfu, .int pfw])), (f5, .inl (cL, 8, .inr (.inl fop)))]) [0, 1, 2, 3, 4, 5] (by decide) rfl
        have hFc := va_free (wc := [(o0, .inr (5, [.ref f0, .int (nI oz), .ref o1, .ref o2, .ref o3])), (o1, .inl (cI, 201, .inl otr)), (o2, .inl (cL, 201, .inr (.inl otn))), (o3, .inl (cL, 201, .inr (.inl ork))), (f0, .inr (2, [.int (nI pfc), .ref f1, .ref f2, .ref f3, .ref f4, .ref f5, .int (nI pfe), .ref f6, .ref f7, .ref f8, .ref f9, .ref f10, .int pfu, .int pfw])), (f5, .inl (cL, 8, .inr (.inl fop)))]) hD hS hA [0, 1, 2, 3, 4, 5] rfl
        refine va_calli (va_runV (C := "NetUnfolder$Possible") (As := [.int (nI i), .int (nI b)]) (rest := []) ⟨hx, hb, hml, hown, ht⟩ (e_Po_comesBefore l dC dI cI cL cZ _ o0 o1 o2 o3 f0 oz otr otn ork f1 f2 f3 f4 f5 f6 f7 f8 f9 f10 pfc pfe pfu pfw fop el rk pl ps nc i b (by first | assumption | omega | trivial | exact AllLt.zero | exact AllN.zero | exact AllM.zero | exact Or.inl rfl | exact Or.inr rfl) (by first | assumption | omega | trivial | exact AllLt.zero | exact AllN.zero | exact AllM.zero | exact Or.inl rfl | exact Or.inr rfl) (by first | assumption | omega | trivial | exact AllLt.zero | exact AllN.zero | exact AllM.zero | exact Or.inl rfl | exact Or.inr rfl) (by first | assumption | omega | trivial | exact AllLt.zero | exact AllN.zero | exact AllM.zero | exact Or.inl rfl | exact Or.inr rfl) (by first | assumption | omega | trivial | exact AllLt.zero | exact AllN.zero | exact AllM.zero | exact Or.inl rfl | exact Or.inr rfl) (by first | assumption | omega | trivial | exact AllLt.zero | exact AllN.zero | exact AllM.zero | exact Or.inl rfl | exact Or.inr rfl) (by first | assumption | omega | trivial | exact AllLt.zero | exact AllN.zero | exact AllM.zero | exact Or.inl rfl | exact Or.inr rfl) (by first | assumption | omega | trivial | exact AllLt.zero | exact AllN.zero | exact AllM.zero | exact Or.inl rfl | exact Or.inr rfl) (by first | assumption | omega | trivial | exact AllLt.zero | exact AllN.zero | exact AllM.zero | exact Or.inl rfl | exact Or.inr rfl) (by first | assumption | omega | trivial | exact AllLt.zero | exact AllN.zero | exact AllM.zero | exact Or.inl rfl | exact Or.inr rfl)) (cwV 2 ht (good_V wd_2_140 wd_2_142 ws_Po_comesBefore wd_1_6 wd_2_143) rfl rfl rfl (by decide +kernel) ⟨Nat.le_of_ble_eq_true rfl, Nat.le_of_ble_eq_true rfl⟩) ⟨fun a U g mk q => by obtain ⟨q0, q1, qP, qK, qD, qN⟩ := q; exact ⟨q0, q1, qP, va_K.moved (u := U) (U := U.calling g mk a) (Vm.Alike.refl U.vm) qK, qD, NwA.same (u := U) rfl qN⟩, (va_recv (q0 := 0) (ci := 5) hK hP rfl rfl), fun U hU hW => ⟨rfl, by rw [hU], by rw [hU]; exact hPc, va_K.moved hW.alike hK, hDc.weaken (fun _ _ _ _ => trivial), NwA.warm hW hN⟩⟩ rfl rfl hl.1 rfl (lv_room (Nat.le_of_ble_eq_true rfl)) d_Po_next_15 ⟨Nat.le_of_ble_eq_true rfl, Nat.le_of_ble_eq_true rfl⟩) hS (fun q _ h => hFc q h) hFc (fun r5 u9 t9 H3 locs ht9 hvm hw4 hB hz1 hk1 hSn => ?_)
        obtain ⟨hP1, hD1⟩ := hB
        rw [ht9] at hP1
        obtain ⟨hPn, hDn⟩ := va_join (wr := []) (w1 := [(o0, .inr (5, [.ref f0, .int (nI oz), .ref o1, .ref o2, .ref o3])), (o1, .inl (cI, 201, .inl otr)), (o2, .inl (cL, 201, .inr (.inl otn))), (o3, .inl (cL, 201, .inr (.inl ork))), (f0, .inr (2, [.int (nI pfc), .ref f1, .ref f2, .ref f3, .ref f4, .ref f5, .int (nI pfe), .ref f6, .ref f7, .ref f8, .ref f9, .ref f10, .int pfu, .int pfw])), (f5, .inl (cL, 8, .inr (.inl fop)))]) hP hD [0, 1, 2, 3, 4, 5] [] rfl rfl (by decide) (by decide) hk1 hFc hP1 hD1
        replace hP : va_P (dC, dI) clA [(o0, .inr (5, [.ref f0, .int (nI oz), .ref o1, .ref o2, .ref o3])), (o1, .inl (cI, 201, .inl otr)), (o2, .inl (cL, 201, .inr (.inl otn))), (o3, .inl (cL, 201, .inr (.inl ork))), (f0, .inr (2, [.int (nI pfc), .ref f1, .ref f2, .ref f3, .ref f4, .ref f5, .int (nI pfe), .ref f6, .ref f7, .ref f8, .ref f9, .ref f10, .int pfu, .int pfw])), (f5, .inl (cL, 8, .inr (.inl fop)))] H3 := hPn
        replace hD : va_D A [(o0, .inr (5, [.ref f0, .int (nI oz), .ref o1, .ref o2, .ref o3])), (o1, .inl (cI, 201, .inl otr)), (o2, .inl (cL, 201, .inr (.inl otn))), (o3, .inl (cL, 201, .inr (.inl ork))), (f0, .inr (2, [.int (nI pfc), .ref f1, .ref f2, .ref f3, .ref f4, .ref f5, .int (nI pfe), .ref f6, .ref f7, .ref f8, .ref f9, .ref f10, .int pfu, .int pfw])), (f5, .inl (cL, 8, .inr (.inl fop)))] := hDn
        replace hS := hSn
        clear hPn hDn hSn
        clear hPc hDc hFc hP1 hD1 hk1 hz1 ht9 hvm
        refine W.cs (cells' := 0) (slots' := 0) rfl rfl ?_
        have hr6 := hw4
        refine lv_if_eq (tgt := 23) hx hb d_Po_next_18 (by decide) (fun hb7 => ?_) (fun hb7 => ?_)
        · skip
          have hcb := (hr6.resolve_left (fun q => by rw [hb7] at q; exact absurd q.1 (by decide))).2
          refine lv_iinc (k := 2) (v := nI (i + 1)) (lv' := [(2, .int (nI (i + 1))), (0, .ref o0), (1, .int (nI b))]) hx hb d_Po_next_23 hl rfl (nI_1 _) (by decide) rfl (fun ls hln => ?_)
          replace hl : lv_has ls 3 [(2, .int (nI (i + 1))), (0, .ref o0), (1, .int (nI b))] := hln
          clear hln
          refine lv_goto (tgt := 4) hx hb d_Po_next_26 (by decide) ?_
          exact hloop1_ih b (i + 1) (by first | assumption | omega | trivial | exact AllLt.zero | exact AllN.zero | exact AllM.zero | exact Or.inl rfl | exact Or.inr rfl) (by first | assumption | omega | trivial | exact AllLt.zero | exact AllN.zero | exact AllM.zero | exact Or.inl rfl | exact Or.inr rfl) (nx_n hbel (by omega) hmin hcb) _ _ ls (lv_sub hl [1, 2, 0] rfl) (hP.sub [0, 1, 2, 3, 4, 5] rfl) (hD.sub [0, 1, 2, 3, 4, 5] (by decide) rfl) hS (by omega)
        · skip
          have hcb := (hr6.resolve_right (fun q => hb7 q.1)).2
          refine lv_iload_n hx hb d_Po_next_21 rfl (lv_at hl 2 rfl) ?_
          refine lv_istore_n (lv' := [(1, .int (nI i)), (0, .ref o0), (2, .int (nI i))]) hx hb d_Po_next_22 rfl hl (by decide) rfl (fun ls hln => ?_)
          replace hl : lv_has ls 3 [(1, .int (nI i)), (0, .ref o0), (2, .int (nI i))] := hln
          clear hln
          refine lv_iinc (k := 2) (v := nI (i + 1)) (lv' := [(2, .int (nI (i + 1))), (1, .int (nI i)), (0, .ref o0)]) hx hb d_Po_next_23 hl rfl (nI_1 _) (by decide) rfl (fun ls hln => ?_)
          replace hl : lv_has ls 3 [(2, .int (nI (i + 1))), (1, .int (nI i)), (0, .ref o0)] := hln
          clear hln
          refine lv_goto (tgt := 4) hx hb d_Po_next_26 (by decide) ?_
          exact hloop1_ih i (i + 1) (by first | assumption | omega | trivial | exact AllLt.zero | exact AllN.zero | exact AllM.zero | exact Or.inl rfl | exact Or.inr rfl) (by first | assumption | omega | trivial | exact AllLt.zero | exact AllN.zero | exact AllM.zero | exact Or.inl rfl | exact Or.inr rfl) (nx_y hbel (by omega) hmin hcb) _ _ ls (lv_sub hl [2, 1, 0] rfl) (hP.sub [0, 1, 2, 3, 4, 5] rfl) (hD.sub [0, 1, 2, 3, 4, 5] (by decide) rfl) hS (by omega)
  exact hloop1 ((oz - 1) + 1) 0 1 (by first | assumption | omega | trivial | exact AllLt.zero | exact AllN.zero | exact AllM.zero | exact Or.inl rfl | exact Or.inr rfl) (by first | assumption | omega | trivial | exact AllLt.zero | exact AllN.zero | exact AllM.zero | exact Or.inl rfl | exact Or.inr rfl) (nx_0 h0l) _ _ ls (lv_sub hl [2, 1, 0] rfl) hP hD hS (Nat.lt_succ_self _)
