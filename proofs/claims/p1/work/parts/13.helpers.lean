set_option maxHeartbeats 4000000 in
set_option maxRecDepth 100000 in
theorem w_transition_ok (l : Launch) (hfl : l.flags = flags0) (dC : Nat → ClassId) (dI : Nat → Nat → Nat) (cI cL cZ : ClassId) (sz : Nat) (a0 : Nat) (a2 : Nat) (a12 : Nat) (a3 : Nat) (a1 : Nat) (a6 : Nat) (a7 : Nat) (o0 : Nat) (a4 : Nat) (a5 : Nat) (a8 : Nat) (a9 : Nat) (a10 : Nat) (a11 : Nat) (a13 : Nat) (a14 : Nat) (a15 : Nat) (a16 : Nat) (a17 : Nat) (a18 : Nat) (k0 : Int32) (k1 : Int32) (h1 : ¬ k0 < 1) (h2 : ¬ 255 < k0) (h3 : ¬ k1 < 0) (h4 : ¬ 255 < k1) : Met l y_La_transition (Cond.codeWith y_La_transition method_3_code 5 (some .int) [(0, 10, 13, 13), (0, 10, 17, 15)] :: wsA) { frames := 4, cells := 0, slots := 0, locals := 86 } (va_Pc [.ref a0, .int k0, .int k1, .ref o0] (fun U => U.heap.size = sz ∧ va_P (dC, dI) clA [(a0, .inr (0, [.ref a1, .ref a2, .ref a3, .ref a4, .ref a5])), (a2, .inr (2, [.int 0, .ref a8, .ref a9, .ref a10, .ref a11, .ref a12, .int 0, .ref a13, .ref a14, .ref a15, .ref a16, .ref a17, .int 0, .int 0])), (a12, .inl (cL, 8, .inr (.inl (fun _ => 0)))), (a3, .inr (3, [.ref a18, .int (-1)])), (a1, .inr (1, [.ref a6, .ref a7, .int 0, .int 0])), (a6, .inl (cI, 8, .inl (fun _ => 0))), (a7, .inl (cI, 8, .inl (fun _ => 0))), (o0, .inl (cL, 1, .inr (.inl (fun _ => 0))))] U.heap ∧ va_K (dC, dI) clA [(cI, .int), (cL, .long), (cZ, .boolean)] U ∧ va_D (fun _ => True) [(a0, .inr (0, [.ref a1, .ref a2, .ref a3, .ref a4, .ref a5])), (a2, .inr (2, [.int 0, .ref a8, .ref a9, .ref a10, .ref a11, .ref a12, .int 0, .ref a13, .ref a14, .ref a15, .ref a16, .ref a17, .int 0, .int 0])), (a12, .inl (cL, 8, .inr (.inl (fun _ => 0)))), (a3, .inr (3, [.ref a18, .int (-1)])), (a1, .inr (1, [.ref a6, .ref a7, .int 0, .int 0])), (a6, .inl (cI, 8, .inl (fun _ => 0))), (a7, .inl (cI, 8, .inl (fun _ => 0))), (o0, .inl (cL, 1, .inr (.inl (fun _ => 0))))] ∧ NwA U ∧ ThA (fun _ => False) U U.heap)) (va_Qi (fun r (_ : Unit) => r = 0) (fun _ t => va_P (dC, dI) clA [(o0, .inl (cL, 1, .inr (.inl (fun _ => 0)))), (a0, .inr (0, [.ref a1, .ref a2, .ref a3, .ref a4, .ref a5])), (a2, .inr (2, [.int 0, .ref a8, .ref a9, .ref a10, .ref a11, .ref a12, .int 0, .ref a13, .ref a14, .ref a15, .ref a16, .ref a17, .int 0, .int 0])), (a12, .inl (cL, 8, .inr (.inl (fun _ => 0)))), (a3, .inr (3, [.ref a18, .int (-1)])), (a1, .inr (1, [.ref a6, .ref a7, .int 1, .int 0])), (a6, .inl (cI, 8, .inl (upd (fun _ => 0) (0 : Int32).toNatClampNeg k0))), (a7, .inl (cI, 8, .inl (upd (fun _ => 0) (0 : Int32).toNatClampNeg k1)))] t.heap ∧ va_D (va_A [(a0, .inr (0, [.ref a1, .ref a2, .ref a3, .ref a4, .ref a5])), (a2, .inr (2, [.int 0, .ref a8, .ref a9, .ref a10, .ref a11, .ref a12, .int 0, .ref a13, .ref a14, .ref a15, .ref a16, .ref a17, .int 0, .int 0])), (a12, .inl (cL, 8, .inr (.inl (fun _ => 0)))), (a3, .inr (3, [.ref a18, .int (-1)])), (a1, .inr (1, [.ref a6, .ref a7, .int 0, .int 0])), (a6, .inl (cI, 8, .inl (fun _ => 0))), (a7, .inl (cI, 8, .inl (fun _ => 0))), (o0, .inl (cL, 1, .inr (.inl (fun _ => 0))))] sz) [(o0, .inl (cL, 1, .inr (.inl (fun _ => 0)))), (a0, .inr (0, [.ref a1, .ref a2, .ref a3, .ref a4, .ref a5])), (a2, .inr (2, [.int 0, .ref a8, .ref a9, .ref a10, .ref a11, .ref a12, .int 0, .ref a13, .ref a14, .ref a15, .ref a16, .ref a17, .int 0, .int 0])), (a12, .inl (cL, 8, .inr (.inl (fun _ => 0)))), (a3, .inr (3, [.ref a18, .int (-1)])), (a1, .inr (1, [.ref a6, .ref a7, .int 1, .int 0])), (a6, .inl (cI, 8, .inl (upd (fun _ => 0) (0 : Int32).toNatClampNeg k0))), (a7, .inl (cI, 8, .inl (upd (fun _ => 0) (0 : Int32).toNatClampNeg k1)))]) (va_A [(a0, .inr (0, [.ref a1, .ref a2, .ref a3, .ref a4, .ref a5])), (a2, .inr (2, [.int 0, .ref a8, .ref a9, .ref a10, .ref a11, .ref a12, .int 0, .ref a13, .ref a14, .ref a15, .ref a16, .ref a17, .int 0, .int 0])), (a12, .inl (cL, 8, .inr (.inl (fun _ => 0)))), (a3, .inr (3, [.ref a18, .int (-1)])), (a1, .inr (1, [.ref a6, .ref a7, .int 0, .int 0])), (a6, .inl (cI, 8, .inl (fun _ => 0))), (a7, .inl (cI, 8, .inl (fun _ => 0))), (o0, .inl (cL, 1, .inr (.inl (fun _ => 0))))] sz)) 0 0 (va_A [(a0, .inr (0, [.ref a1, .ref a2, .ref a3, .ref a4, .ref a5])), (a2, .inr (2, [.int 0, .ref a8, .ref a9, .ref a10, .ref a11, .ref a12, .int 0, .ref a13, .ref a14, .ref a15, .ref a16, .ref a17, .int 0, .int 0])), (a12, .inl (cL, 8, .inr (.inl (fun _ => 0)))), (a3, .inr (3, [.ref a18, .int (-1)])), (a1, .inr (1, [.ref a6, .ref a7, .int 0, .int 0])), (a6, .inl (cI, 8, .inl (fun _ => 0))), (a7, .inl (cI, 8, .inl (fun _ => 0))), (o0, .inl (cL, 1, .inr (.inl (fun _ => 0))))] sz) := by
  refine va_MetW (cc := method_3_code) (maxL := 5) (ret := (some .int)) (hh := [(0, 10, 13, 13), (0, 10, 17, 15)]) (by decide) rfl ?_
  intro p e s m args below meth c s₁ B hml hv
  obtain ⟨rfl, hsz, hP, hK, hD0, hN, hT⟩ := hv
  have hx := B.exec
  have hb := B.bytes
  have hr := B.returns
  have ht : ∀ w ∈ wsA, w.before _ s = true := fun w h => atoms_spec (ws := (Cond.codeWith y_La_transition method_3_code 5 (some .int) [(0, 10, 13, 13), (0, 10, 17, 15)] :: wsA)) B.pre w (List.mem_cons_of_mem _ h)
  have hown : s.vm.findClass "NetUnfolderLaw" = some m.cls := findClass_of_methodNamed B.named
  have hlocks := B.notSynchronized
  have htab := hm_tab B (atoms_spec (ws := (Cond.codeWith y_La_transition method_3_code 5 (some .int) [(0, 10, 13, 13), (0, 10, 17, 15)] :: wsA)) B.pre _ List.mem_cons_self)
  subst hsz
  have hD := hD0.self (sz := s.heap.size)
  generalize hAe : va_A [(a0, .inr (0, [.ref a1, .ref a2, .ref a3, .ref a4, .ref a5])), (a2, .inr (2, [.int 0, .ref a8, .ref a9, .ref a10, .ref a11, .ref a12, .int 0, .ref a13, .ref a14, .ref a15, .ref a16, .ref a17, .int 0, .int 0])), (a12, .inl (cL, 8, .inr (.inl (fun _ => 0)))), (a3, .inr (3, [.ref a18, .int (-1)])), (a1, .inr (1, [.ref a6, .ref a7, .int 0, .int 0])), (a6, .inl (cI, 8, .inl (fun _ => 0))), (a7, .inl (cI, 8, .inl (fun _ => 0))), (o0, .inl (cL, 1, .inr (.inl (fun _ => 0))))] s.heap.size = A at hD ⊢
  have hA : ∀ q : Nat, s.heap.size ≤ q → A q := fun q h => by rw [← hAe]; exact Or.inr h
  have hS : va_S A s.heap s.heap [] := va_S.rf
  have hl := lv_entry ([.ref a0, .int k0, .int k1, .ref o0]) (n := 5) (Nat.le_of_ble_eq_true rfl)
  rw [lg_entry_eq]
  generalize (lg_sl ([.ref a0, .int k0, .int k1, .ref o0]) ++ List.replicate (5 - (lg_sl ([.ref a0, .int k0, .int k1, .ref o0])).length) Slot.unset).toArray = ls at hl ⊢
  replace hl : lv_has ls 5 [(0, .ref a0), (1, .int k0), (2, .int k1), (3, .ref o0)] := hl
  refine lv_aload_n hx hb d_La_transition_0 rfl (lv_at hl 3 rfl) ?_
  refine lv_iconst (v := 0) hx hb d_La_transition_1 (by decide) ?_
  refine lv_aload_n hx hb d_La_transition_2 rfl (lv_at hl 0 rfl) ?_
  refine lv_iload_n hx hb d_La_transition_3 rfl (lv_at hl 1 rfl) ?_
  refine lv_iload_n hx hb d_La_transition_4 rfl (lv_at hl 2 rfl) ?_
  have hPc := hP.sub (ws' := [(a0, .inr (0, [.ref a1, .ref a2, .ref a3, .ref a4, .ref a5])), (a2, .inr (2, [.int 0, .ref a8, .ref a9, .ref a10, .ref a11, .ref a12, .int 0, .ref a13, .ref a14, .ref a15, .ref a16, .ref a17, .int 0, .int 0])), (a12, .inl (cL, 8, .inr (.inl (fun _ => 0)))), (a3, .inr (3, [.ref a18, .int (-1)])), (a1, .inr (1, [.ref a6, .ref a7, .int 0, .int 0])), (a6, .inl (cI, 8, .inl (fun _ => 0))), (a7, .inl (cI, 8, .inl (fun _ => 0)))]) [0, 1, 2, 3, 4, 5, 6] rfl
  have hDc := hD.sub (ws' := [(a0, .inr (0, [.ref a1, .ref a2, .ref a3, .ref a4, .ref a5])), (a2, .inr (2, [.int 0, .ref a8, .ref a9, .ref a10, .ref a11, .ref a12, .int 0, .ref a13, .ref a14, .ref a15, .ref a16, .ref a17, .int 0, .int 0])), (a12, .inl (cL, 8, .inr (.inl (fun _ => 0)))), (a3, .inr (3, [.ref a18, .int (-1)])), (a1, .inr (1, [.ref a6, .ref a7, .int 0, .int 0])), (a6, .inl (cI, 8, .inl (fun _ => 0))), (a7, .inl (cI, 8, .inl (fun _ => 0)))]) [0, 1, 2, 3, 4, 5, 6] (by decide) rfl
  have hFc := va_free (wc := [(a0, .inr (0, [.ref a1, .ref a2, .ref a3, .ref a4, .ref a5])), (a2, .inr (2, [.int 0, .ref a8, .ref a9, .ref a10, .ref a11, .ref a12, .int 0, .ref a13, .ref a14, .ref a15, .ref a16, .ref a17, .int 0, .int 0])), (a12, .inl (cL, 8, .inr (.inl (fun _ => 0)))), (a3, .inr (3, [.ref a18, .int (-1)])), (a1, .inr (1, [.ref a6, .ref a7, .int 0, .int 0])), (a6, .inl (cI, 8, .inl (fun _ => 0))), (a7, .inl (cI, 8, .inl (fun _ => 0)))]) hD hS hA [0, 1, 2, 3, 4, 5, 6] rfl
  refine va_calli (va_runV (C := "NetUnfolder") (As := [.int k0, .int k1]) (rest := [.int 0, .ref o0]) ⟨hx, hb, hml, hown, ht⟩ (c_NU_transition_ok l dC dI cI cL cZ _ a0 a2 a12 a3 a1 a6 a7 a4 a5 a8 a9 a10 a11 a13 a14 a15 a16 a17 a18 k0 k1 h1 h2 h3 h4) (cwV 2 ht (good_V wd_3_6 wd_3_7 wd_3_8 wd_1_1 wd_3_9) rfl rfl rfl (by decide +kernel) ⟨Nat.le_of_ble_eq_true rfl, Nat.le_of_ble_eq_true rfl⟩) ⟨fun a U g mk q => by obtain ⟨q0, q1, qP, qK, qD, qN⟩ := q; exact ⟨q0, q1, qP, va_K.moved (u := U) (U := U.calling g mk a) (Vm.Alike.refl U.vm) qK, qD, NwA.same (u := U) rfl qN⟩, (va_recv (q0 := 0) (ci := 0) hK hP rfl rfl), fun U hU hW => ⟨rfl, by rw [hU], by rw [hU]; exact hPc, va_K.moved hW.alike hK, hDc.weaken (fun _ _ _ _ => trivial), NwA.warm hW hN⟩⟩ rfl rfl hl.1 rfl (lv_room (Nat.le_of_ble_eq_true rfl)) d_La_transition_5 ⟨Nat.le_of_ble_eq_true rfl, Nat.le_of_ble_eq_true rfl⟩) hS (fun q _ h => hFc q h) hFc (fun r9 u t H1 locs ht9 hvm hw2 hB hz1 hk1 hSn => ?_)
  obtain ⟨hP1, hD1⟩ := hB
  rw [ht9] at hP1
  obtain ⟨hPn, hDn⟩ := va_join (wr := [(o0, .inl (cL, 1, .inr (.inl (fun _ => 0))))]) (w1 := [(a0, .inr (0, [.ref a1, .ref a2, .ref a3, .ref a4, .ref a5])), (a2, .inr (2, [.int 0, .ref a8, .ref a9, .ref a10, .ref a11, .ref a12, .int 0, .ref a13, .ref a14, .ref a15, .ref a16, .ref a17, .int 0, .int 0])), (a12, .inl (cL, 8, .inr (.inl (fun _ => 0)))), (a3, .inr (3, [.ref a18, .int (-1)])), (a1, .inr (1, [.ref a6, .ref a7, .int 1, .int 0])), (a6, .inl (cI, 8, .inl (upd (fun _ => 0) (0 : Int32).toNatClampNeg k0))), (a7, .inl (cI, 8, .inl (upd (fun _ => 0) (0 : Int32).toNatClampNeg k1)))]) hP hD [0, 1, 2, 3, 4, 5, 6] [7] rfl rfl (by decide) (by decide) hk1 hFc hP1 hD1
  replace hP : va_P (dC, dI) clA [(o0, .inl (cL, 1, .inr (.inl (fun _ => 0)))), (a0, .inr (0, [.ref a1, .ref a2, .ref a3, .ref a4, .ref a5])), (a2, .inr (2, [.int 0, .ref a8, .ref a9, .ref a10, .ref a11, .ref a12, .int 0, .ref a13, .ref a14, .ref a15, .ref a16, .ref a17, .int 0, .int 0])), (a12, .inl (cL, 8, .inr (.inl (fun _ => 0)))), (a3, .inr (3, [.ref a18, .int (-1)])), (a1, .inr (1, [.ref a6, .ref a7, .int 1, .int 0])), (a6, .inl (cI, 8, .inl (upd (fun _ => 0) (0 : Int32).toNatClampNeg k0))), (a7, .inl (cI, 8, .inl (upd (fun _ => 0) (0 : Int32).toNatClampNeg k1)))] H1 := hPn
  replace hD : va_D A [(o0, .inl (cL, 1, .inr (.inl (fun _ => 0)))), (a0, .inr (0, [.ref a1, .ref a2, .ref a3, .ref a4, .ref a5])), (a2, .inr (2, [.int 0, .ref a8, .ref a9, .ref a10, .ref a11, .ref a12, .int 0, .ref a13, .ref a14, .ref a15, .ref a16, .ref a17, .int 0, .int 0])), (a12, .inl (cL, 8, .inr (.inl (fun _ => 0)))), (a3, .inr (3, [.ref a18, .int (-1)])), (a1, .inr (1, [.ref a6, .ref a7, .int 1, .int 0])), (a6, .inl (cI, 8, .inl (upd (fun _ => 0) (0 : Int32).toNatClampNeg k0))), (a7, .inl (cI, 8, .inl (upd (fun _ => 0) (0 : Int32).toNatClampNeg k1)))] := hDn
  replace hS := hSn
  clear hPn hDn hSn
  clear hPc hDc hFc hP1 hD1 hk1 hz1 ht9 hvm
  refine W.cs (cells' := 0) (slots' := 0) rfl rfl ?_
  subst hw2
  refine lv_i2l (v := 0) hx hb d_La_transition_8 (by decide) ?_
  refine va_last hx hb hK hP hD hS 0 1 rfl rfl (by unfold vp_in; decide) d_La_transition_9 (fun H3 locs hPn hDn hSn => ?_)
  rw [up_L0] at hPn hDn
  replace hP : va_P (dC, dI) clA [(o0, .inl (cL, 1, .inr (.inl (fun _ => 0)))), (a0, .inr (0, [.ref a1, .ref a2, .ref a3, .ref a4, .ref a5])), (a2, .inr (2, [.int 0, .ref a8, .ref a9, .ref a10, .ref a11, .ref a12, .int 0, .ref a13, .ref a14, .ref a15, .ref a16, .ref a17, .int 0, .int 0])), (a12, .inl (cL, 8, .inr (.inl (fun _ => 0)))), (a3, .inr (3, [.ref a18, .int (-1)])), (a1, .inr (1, [.ref a6, .ref a7, .int 1, .int 0])), (a6, .inl (cI, 8, .inl (upd (fun _ => 0) (0 : Int32).toNatClampNeg k0))), (a7, .inl (cI, 8, .inl (upd (fun _ => 0) (0 : Int32).toNatClampNeg k1)))] H3 := hPn
  replace hD : va_D A [(o0, .inl (cL, 1, .inr (.inl (fun _ => 0)))), (a0, .inr (0, [.ref a1, .ref a2, .ref a3, .ref a4, .ref a5])), (a2, .inr (2, [.int 0, .ref a8, .ref a9, .ref a10, .ref a11, .ref a12, .int 0, .ref a13, .ref a14, .ref a15, .ref a16, .ref a17, .int 0, .int 0])), (a12, .inl (cL, 8, .inr (.inl (fun _ => 0)))), (a3, .inr (3, [.ref a18, .int (-1)])), (a1, .inr (1, [.ref a6, .ref a7, .int 1, .int 0])), (a6, .inl (cI, 8, .inl (upd (fun _ => 0) (0 : Int32).toNatClampNeg k0))), (a7, .inl (cI, 8, .inl (upd (fun _ => 0) (0 : Int32).toNatClampNeg k1)))] := hDn
  replace hS := hSn
  clear hPn hDn hSn
  refine lv_goto (tgt := 21) hx hb d_La_transition_10 (by decide) ?_
  refine lv_iconst (v := 0) hx hb d_La_transition_21 (by decide) ?_
  have hP9 := hP.sub (ws' := [(o0, .inl (cL, 1, .inr (.inl (fun _ => 0)))), (a0, .inr (0, [.ref a1, .ref a2, .ref a3, .ref a4, .ref a5])), (a2, .inr (2, [.int 0, .ref a8, .ref a9, .ref a10, .ref a11, .ref a12, .int 0, .ref a13, .ref a14, .ref a15, .ref a16, .ref a17, .int 0, .int 0])), (a12, .inl (cL, 8, .inr (.inl (fun _ => 0)))), (a3, .inr (3, [.ref a18, .int (-1)])), (a1, .inr (1, [.ref a6, .ref a7, .int 1, .int 0])), (a6, .inl (cI, 8, .inl (upd (fun _ => 0) (0 : Int32).toNatClampNeg k0))), (a7, .inl (cI, 8, .inl (upd (fun _ => 0) (0 : Int32).toNatClampNeg k1)))]) [0, 1, 2, 3, 4, 5, 6, 7] rfl
  have hD9 := hD.sub (ws' := [(o0, .inl (cL, 1, .inr (.inl (fun _ => 0)))), (a0, .inr (0, [.ref a1, .ref a2, .ref a3, .ref a4, .ref a5])), (a2, .inr (2, [.int 0, .ref a8, .ref a9, .ref a10, .ref a11, .ref a12, .int 0, .ref a13, .ref a14, .ref a15, .ref a16, .ref a17, .int 0, .int 0])), (a12, .inl (cL, 8, .inr (.inl (fun _ => 0)))), (a3, .inr (3, [.ref a18, .int (-1)])), (a1, .inr (1, [.ref a6, .ref a7, .int 1, .int 0])), (a6, .inl (cI, 8, .inl (upd (fun _ => 0) (0 : Int32).toNatClampNeg k0))), (a7, .inl (cI, 8, .inl (upd (fun _ => 0) (0 : Int32).toNatClampNeg k1)))]) [0, 1, 2, 3, 4, 5, 6, 7] (by decide) rfl
  exact W.iret (v := 0) hx hb hr (fun t ht9 hW => ⟨⟨0, (), rfl, rfl, by rw [ht9]; exact hP9, hD9⟩, hS.F ht9⟩) hS.2.2 d_La_transition_22

set_option maxHeartbeats 4000000 in
set_option maxRecDepth 100000 in
theorem w_transition_0 (l : Launch) (hfl : l.flags = flags0) (dC : Nat → ClassId) (dI : Nat → Nat → Nat) (cI cL cZ : ClassId) (sz : Nat) (a0 : Nat) (o0 : Nat) (a1 : Nat) (a2 : Nat) (a3 : Nat) (a4 : Nat) (a5 : Nat) (k0 : Int32) (k1 : Int32) (h1 : k0 < 1) : Met l y_La_transition (Cond.codeWith y_La_transition method_3_code 5 (some .int) [(0, 10, 13, 13), (0, 10, 17, 15)] :: wsA) { frames := 7, cells := 1, slots := 6, locals := 118 } (va_Pc [.ref a0, .int k0, .int k1, .ref o0] (fun U => U.heap.size = sz ∧ va_P (dC, dI) clA [(a0, .inr (0, [.ref a1, .ref a2, .ref a3, .ref a4, .ref a5])), (o0, .inl (cL, 1, .inr (.inl (fun _ => 0))))] U.heap ∧ va_K (dC, dI) clA [(cI, .int), (cL, .long), (cZ, .boolean)] U ∧ va_D (fun _ => True) [(a0, .inr (0, [.ref a1, .ref a2, .ref a3, .ref a4, .ref a5])), (o0, .inl (cL, 1, .inr (.inl (fun _ => 0))))] ∧ NwA U ∧ ThA (fun _ => False) U U.heap)) (va_Qi (fun r (_ : Unit) => r = 1) (fun _ t => va_P (dC, dI) clA [(a0, .inr (0, [.ref a1, .ref a2, .ref a3, .ref a4, .ref a5])), (o0, .inl (cL, 1, .inr (.inl (fun _ => 0))))] t.heap ∧ va_D (va_A [(a0, .inr (0, [.ref a1, .ref a2, .ref a3, .ref a4, .ref a5])), (o0, .inl (cL, 1, .inr (.inl (fun _ => 0))))] sz) [(a0, .inr (0, [.ref a1, .ref a2, .ref a3, .ref a4, .ref a5])), (o0, .inl (cL, 1, .inr (.inl (fun _ => 0))))]) (va_A [(a0, .inr (0, [.ref a1, .ref a2, .ref a3, .ref a4, .ref a5])), (o0, .inl (cL, 1, .inr (.inl (fun _ => 0))))] sz)) 1 6 (va_A [(a0, .inr (0, [.ref a1, .ref a2, .ref a3, .ref a4, .ref a5])), (o0, .inl (cL, 1, .inr (.inl (fun _ => 0))))] sz) := by
  refine va_MetW (cc := method_3_code) (maxL := 5) (ret := (some .int)) (hh := [(0, 10, 13, 13), (0, 10, 17, 15)]) (by decide) rfl ?_
  intro p e s m args below meth c s₁ B hml hv
  obtain ⟨rfl, hsz, hP, hK, hD0, hN, hT⟩ := hv
  have hx := B.exec
  have hb := B.bytes
  have hr := B.returns
  have ht : ∀ w ∈ wsA, w.before _ s = true := fun w h => atoms_spec (ws := (Cond.codeWith y_La_transition method_3_code 5 (some .int) [(0, 10, 13, 13), (0, 10, 17, 15)] :: wsA)) B.pre w (List.mem_cons_of_mem _ h)
  have hown : s.vm.findClass "NetUnfolderLaw" = some m.cls := findClass_of_methodNamed B.named
  have hlocks := B.notSynchronized
  have htab := hm_tab B (atoms_spec (ws := (Cond.codeWith y_La_transition method_3_code 5 (some .int) [(0, 10, 13, 13), (0, 10, 17, 15)] :: wsA)) B.pre _ List.mem_cons_self)
  subst hsz
  have hD := hD0.self (sz := s.heap.size)
  generalize hAe : va_A [(a0, .inr (0, [.ref a1, .ref a2, .ref a3, .ref a4, .ref a5])), (o0, .inl (cL, 1, .inr (.inl (fun _ => 0))))] s.heap.size = A at hD ⊢
  have hA : ∀ q : Nat, s.heap.size ≤ q → A q := fun q h => by rw [← hAe]; exact Or.inr h
  have hS : va_S A s.heap s.heap [] := va_S.rf
  have hl := lv_entry ([.ref a0, .int k0, .int k1, .ref o0]) (n := 5) (Nat.le_of_ble_eq_true rfl)
  rw [lg_entry_eq]
  generalize (lg_sl ([.ref a0, .int k0, .int k1, .ref o0]) ++ List.replicate (5 - (lg_sl ([.ref a0, .int k0, .int k1, .ref o0])).length) Slot.unset).toArray = ls at hl ⊢
  replace hl : lv_has ls 5 [(0, .ref a0), (1, .int k0), (2, .int k1), (3, .ref o0)] := hl
  refine lv_aload_n hx hb d_La_transition_0 rfl (lv_at hl 3 rfl) ?_
  refine lv_iconst (v := 0) hx hb d_La_transition_1 (by decide) ?_
  refine lv_aload_n hx hb d_La_transition_2 rfl (lv_at hl 0 rfl) ?_
  refine lv_iload_n hx hb d_La_transition_3 rfl (lv_at hl 1 rfl) ?_
  refine lv_iload_n hx hb d_La_transition_4 rfl (lv_at hl 2 rfl) ?_
  have hPc := hP.sub (ws' := [(a0, .inr (0, [.ref a1, .ref a2, .ref a3, .ref a4, .ref a5]))]) [0] rfl
  have hDc := hD.sub (ws' := [(a0, .inr (0, [.ref a1, .ref a2, .ref a3, .ref a4, .ref a5]))]) [0] (by decide) rfl
  have hFc := va_free (wc := [(a0, .inr (0, [.ref a1, .ref a2, .ref a3, .ref a4, .ref a5]))]) hD hS hA [0] rfl
  refine tx_callCatch1 (C := "NetUnfolder") (As := [.int k0, .int k1]) (rest := [.int 0, .ref o0]) (cls := "java/lang/IllegalArgumentException") ⟨hx, hb, hml, hown, ht⟩ (t_NU_transition_0 l hfl dC dI cI cL cZ _ a0 a1 a2 a3 a4 a5 k0 k1 h1) (cwV 2 ht (good_V wd_3_6 wd_3_7 wd_3_8 wd_1_1 wd_3_9) rfl rfl rfl (by decide +kernel) ⟨Nat.le_of_ble_eq_true rfl, Nat.le_of_ble_eq_true rfl⟩) ⟨fun a U g mk q => by obtain ⟨q0, q1, qP, qK, qD, qN, qT⟩ := q; exact ⟨q0, q1, qP, va_K.moved (u := U) (U := U.calling g mk a) (Vm.Alike.refl U.vm) qK, qD, NwA.same (u := U) rfl qN, ThA.same (u := U) rfl qT⟩, (va_recv (q0 := 0) (ci := 0) hK hP rfl rfl), fun U hU hW => ⟨rfl, by rw [hU], by rw [hU]; exact hPc, va_K.moved hW.alike hK, hDc.weaken (fun _ _ _ _ => trivial), NwA.warm hW hN, by rw [hU]; exact ThA.warm hW hT⟩⟩ rfl hl.1 (lv_room (Nat.le_of_ble_eq_true rfl)) d_La_transition_5 ⟨Nat.le_of_ble_eq_true rfl, Nat.le_of_ble_eq_true rfl⟩ htab (ht _ wd_3_4) (by decide) (by decide) (by decide) (fun _ _ _ _ h => h) (va_Nw.use rfl (hT.2.2.1 _ xc_IAE)) (fun x9 H1 hk1 => ?_)
  replace hP : va_P (dC, dI) clA [(a0, .inr (0, [.ref a1, .ref a2, .ref a3, .ref a4, .ref a5])), (o0, .inl (cL, 1, .inr (.inl (fun _ => 0))))] H1 := pu_keep2 hP hk1
  replace hS := pu_S hS hk1
  clear hPc hDc hFc hk1
  refine W.cs (cells' := 1) (slots' := 6) rfl rfl ?_
  refine lv_astore (lv' := [(4, .ref x9), (0, .ref a0), (1, .int k0), (2, .int k1), (3, .ref o0)]) hx hb d_La_transition_13 hl (by decide) rfl (fun ls hln => ?_)
  replace hl : lv_has ls 5 [(4, .ref x9), (0, .ref a0), (1, .int k0), (2, .int k1), (3, .ref o0)] := hln
  clear hln
  refine lv_iconst (v := 1) hx hb d_La_transition_15 (by decide) ?_
  have hP9 := hP.sub (ws' := [(a0, .inr (0, [.ref a1, .ref a2, .ref a3, .ref a4, .ref a5])), (o0, .inl (cL, 1, .inr (.inl (fun _ => 0))))]) [0, 1] rfl
  have hD9 := hD.sub (ws' := [(a0, .inr (0, [.ref a1, .ref a2, .ref a3, .ref a4, .ref a5])), (o0, .inl (cL, 1, .inr (.inl (fun _ => 0))))]) [0, 1] (by decide) rfl
  exact W.iret (v := 1) hx hb hr (fun t ht9 hW => ⟨⟨1, (), rfl, rfl, by rw [ht9]; exact hP9, hD9⟩, hS.F ht9⟩) hS.2.2 d_La_transition_16

set_option maxHeartbeats 4000000 in
set_option maxRecDepth 100000 in
theorem w_transition_1 (l : Launch) (hfl : l.flags = flags0) (dC : Nat → ClassId) (dI : Nat → Nat → Nat) (cI cL cZ : ClassId) (sz : Nat) (a0 : Nat) (o0 : Nat) (a1 : Nat) (a2 : Nat) (a3 : Nat) (a4 : Nat) (a5 : Nat) (k0 : Int32) (k1 : Int32) (h2 : 255 < k0) : Met l y_La_transition (Cond.codeWith y_La_transition method_3_code 5 (some .int) [(0, 10, 13, 13), (0, 10, 17, 15)] :: wsA) { frames := 7, cells := 1, slots := 6, locals := 118 } (va_Pc [.ref a0, .int k0, .int k1, .ref o0] (fun U => U.heap.size = sz ∧ va_P (dC, dI) clA [(a0, .inr (0, [.ref a1, .ref a2, .ref a3, .ref a4, .ref a5])), (o0, .inl (cL, 1, .inr (.inl (fun _ => 0))))] U.heap ∧ va_K (dC, dI) clA [(cI, .int), (cL, .long), (cZ, .boolean)] U ∧ va_D (fun _ => True) [(a0, .inr (0, [.ref a1, .ref a2, .ref a3, .ref a4, .ref a5])), (o0, .inl (cL, 1, .inr (.inl (fun _ => 0))))] ∧ NwA U ∧ ThA (fun _ => False) U U.heap)) (va_Qi (fun r (_ : Unit) => r = 1) (fun _ t => va_P (dC, dI) clA [(a0, .inr (0, [.ref a1, .ref a2, .ref a3, .ref a4, .ref a5])), (o0, .inl (cL, 1, .inr (.inl (fun _ => 0))))] t.heap ∧ va_D (va_A [(a0, .inr (0, [.ref a1, .ref a2, .ref a3, .ref a4, .ref a5])), (o0, .inl (cL, 1, .inr (.inl (fun _ => 0))))] sz) [(a0, .inr (0, [.ref a1, .ref a2, .ref a3, .ref a4, .ref a5])), (o0, .inl (cL, 1, .inr (.inl (fun _ => 0))))]) (va_A [(a0, .inr (0, [.ref a1, .ref a2, .ref a3, .ref a4, .ref a5])), (o0, .inl (cL, 1, .inr (.inl (fun _ => 0))))] sz)) 1 6 (va_A [(a0, .inr (0, [.ref a1, .ref a2, .ref a3, .ref a4, .ref a5])), (o0, .inl (cL, 1, .inr (.inl (fun _ => 0))))] sz) := by
  refine va_MetW (cc := method_3_code) (maxL := 5) (ret := (some .int)) (hh := [(0, 10, 13, 13), (0, 10, 17, 15)]) (by decide) rfl ?_
  intro p e s m args below meth c s₁ B hml hv
  obtain ⟨rfl, hsz, hP, hK, hD0, hN, hT⟩ := hv
  have hx := B.exec
  have hb := B.bytes
  have hr := B.returns
  have ht : ∀ w ∈ wsA, w.before _ s = true := fun w h => atoms_spec (ws := (Cond.codeWith y_La_transition method_3_code 5 (some .int) [(0, 10, 13, 13), (0, 10, 17, 15)] :: wsA)) B.pre w (List.mem_cons_of_mem _ h)
  have hown : s.vm.findClass "NetUnfolderLaw" = some m.cls := findClass_of_methodNamed B.named
  have hlocks := B.notSynchronized
  have htab := hm_tab B (atoms_spec (ws := (Cond.codeWith y_La_transition method_3_code 5 (some .int) [(0, 10, 13, 13), (0, 10, 17, 15)] :: wsA)) B.pre _ List.mem_cons_self)
  subst hsz
  have hD := hD0.self (sz := s.heap.size)
  generalize hAe : va_A [(a0, .inr (0, [.ref a1, .ref a2, .ref a3, .ref a4, .ref a5])), (o0, .inl (cL, 1, .inr (.inl (fun _ => 0))))] s.heap.size = A at hD ⊢
  have hA : ∀ q : Nat, s.heap.size ≤ q → A q := fun q h => by rw [← hAe]; exact Or.inr h
  have hS : va_S A s.heap s.heap [] := va_S.rf
  have hl := lv_entry ([.ref a0, .int k0, .int k1, .ref o0]) (n := 5) (Nat.le_of_ble_eq_true rfl)
  rw [lg_entry_eq]
  generalize (lg_sl ([.ref a0, .int k0, .int k1, .ref o0]) ++ List.replicate (5 - (lg_sl ([.ref a0, .int k0, .int k1, .ref o0])).length) Slot.unset).toArray = ls at hl ⊢
  replace hl : lv_has ls 5 [(0, .ref a0), (1, .int k0), (2, .int k1), (3, .ref o0)] := hl
  refine lv_aload_n hx hb d_La_transition_0 rfl (lv_at hl 3 rfl) ?_
  refine lv_iconst (v := 0) hx hb d_La_transition_1 (by decide) ?_
  refine lv_aload_n hx hb d_La_transition_2 rfl (lv_at hl 0 rfl) ?_
  refine lv_iload_n hx hb d_La_transition_3 rfl (lv_at hl 1 rfl) ?_
  refine lv_iload_n hx hb d_La_transition_4 rfl (lv_at hl 2 rfl) ?_
  have hPc := hP.sub (ws' := [(a0, .inr (0, [.ref a1, .ref a2, .ref a3, .ref a4, .ref a5]))]) [0] rfl
  have hDc := hD.sub (ws' := [(a0, .inr (0, [.ref a1, .ref a2, .ref a3, .ref a4, .ref a5]))]) [0] (by decide) rfl
  have hFc := va_free (wc := [(a0, .inr (0, [.ref a1, .ref a2, .ref a3, .ref a4, .ref a5]))]) hD hS hA [0] rfl
  refine tx_callCatch1 (C := "NetUnfolder") (As := [.int k0, .int k1]) (rest := [.int 0, .ref o0]) (cls := "java/lang/IllegalArgumentException") ⟨hx, hb, hml, hown, ht⟩ (t_NU_transition_1 l hfl dC dI cI cL cZ _ a0 a1 a2 a3 a4 a5 k0 k1 h2) (cwV 2 ht (good_V wd_3_6 wd_3_7 wd_3_8 wd_1_1 wd_3_9) rfl rfl rfl (by decide +kernel) ⟨Nat.le_of_ble_eq_true rfl, Nat.le_of_ble_eq_true rfl⟩) ⟨fun a U g mk q => by obtain ⟨q0, q1, qP, qK, qD, qN, qT⟩ := q; exact ⟨q0, q1, qP, va_K.moved (u := U) (U := U.calling g mk a) (Vm.Alike.refl U.vm) qK, qD, NwA.same (u := U) rfl qN, ThA.same (u := U) rfl qT⟩, (va_recv (q0 := 0) (ci := 0) hK hP rfl rfl), fun U hU hW => ⟨rfl, by rw [hU], by rw [hU]; exact hPc, va_K.moved hW.alike hK, hDc.weaken (fun _ _ _ _ => trivial), NwA.warm hW hN, by rw [hU]; exact ThA.warm hW hT⟩⟩ rfl hl.1 (lv_room (Nat.le_of_ble_eq_true rfl)) d_La_transition_5 ⟨Nat.le_of_ble_eq_true rfl, Nat.le_of_ble_eq_true rfl⟩ htab (ht _ wd_3_4) (by decide) (by decide) (by decide) (fun _ _ _ _ h => h) (va_Nw.use rfl (hT.2.2.1 _ xc_IAE)) (fun x9 H1 hk1 => ?_)
  replace hP : va_P (dC, dI) clA [(a0, .inr (0, [.ref a1, .ref a2, .ref a3, .ref a4, .ref a5])), (o0, .inl (cL, 1, .inr (.inl (fun _ => 0))))] H1 := pu_keep2 hP hk1
  replace hS := pu_S hS hk1
  clear hPc hDc hFc hk1
  refine W.cs (cells' := 1) (slots' := 6) rfl rfl ?_
  refine lv_astore (lv' := [(4, .ref x9), (0, .ref a0), (1, .int k0), (2, .int k1), (3, .ref o0)]) hx hb d_La_transition_13 hl (by decide) rfl (fun ls hln => ?_)
  replace hl : lv_has ls 5 [(4, .ref x9), (0, .ref a0), (1, .int k0), (2, .int k1), (3, .ref o0)] := hln
  clear hln
  refine lv_iconst (v := 1) hx hb d_La_transition_15 (by decide) ?_
  have hP9 := hP.sub (ws' := [(a0, .inr (0, [.ref a1, .ref a2, .ref a3, .ref a4, .ref a5])), (o0, .inl (cL, 1, .inr (.inl (fun _ => 0))))]) [0, 1] rfl
  have hD9 := hD.sub (ws' := [(a0, .inr (0, [.ref a1, .ref a2, .ref a3, .ref a4, .ref a5])), (o0, .inl (cL, 1, .inr (.inl (fun _ => 0))))]) [0, 1] (by decide) rfl
  exact W.iret (v := 1) hx hb hr (fun t ht9 hW => ⟨⟨1, (), rfl, rfl, by rw [ht9]; exact hP9, hD9⟩, hS.F ht9⟩) hS.2.2 d_La_transition_16

set_option maxHeartbeats 4000000 in
set_option maxRecDepth 100000 in
theorem w_transition_2 (l : Launch) (hfl : l.flags = flags0) (dC : Nat → ClassId) (dI : Nat → Nat → Nat) (cI cL cZ : ClassId) (sz : Nat) (a0 : Nat) (o0 : Nat) (a1 : Nat) (a2 : Nat) (a3 : Nat) (a4 : Nat) (a5 : Nat) (k0 : Int32) (k1 : Int32) (h1 : ¬ k0 < 1) (h2 : ¬ 255 < k0) (h3 : k1 < 0) : Met l y_La_transition (Cond.codeWith y_La_transition method_3_code 5 (some .int) [(0, 10, 13, 13), (0, 10, 17, 15)] :: wsA) { frames := 7, cells := 1, slots := 6, locals := 118 } (va_Pc [.ref a0, .int k0, .int k1, .ref o0] (fun U => U.heap.size = sz ∧ va_P (dC, dI) clA [(a0, .inr (0, [.ref a1, .ref a2, .ref a3, .ref a4, .ref a5])), (o0, .inl (cL, 1, .inr (.inl (fun _ => 0))))] U.heap ∧ va_K (dC, dI) clA [(cI, .int), (cL, .long), (cZ, .boolean)] U ∧ va_D (fun _ => True) [(a0, .inr (0, [.ref a1, .ref a2, .ref a3, .ref a4, .ref a5])), (o0, .inl (cL, 1, .inr (.inl (fun _ => 0))))] ∧ NwA U ∧ ThA (fun _ => False) U U.heap)) (va_Qi (fun r (_ : Unit) => r = 1) (fun _ t => va_P (dC, dI) clA [(a0, .inr (0, [.ref a1, .ref a2, .ref a3, .ref a4, .ref a5])), (o0, .inl (cL, 1, .inr (.inl (fun _ => 0))))] t.heap ∧ va_D (va_A [(a0, .inr (0, [.ref a1, .ref a2, .ref a3, .ref a4, .ref a5])), (o0, .inl (cL, 1, .inr (.inl (fun _ => 0))))] sz) [(a0, .inr (0, [.ref a1, .ref a2, .ref a3, .ref a4, .ref a5])), (o0, .inl (cL, 1, .inr (.inl (fun _ => 0))))]) (va_A [(a0, .inr (0, [.ref a1, .ref a2, .ref a3, .ref a4, .ref a5])), (o0, .inl (cL, 1, .inr (.inl (fun _ => 0))))] sz)) 1 6 (va_A [(a0, .inr (0, [.ref a1, .ref a2, .ref a3, .ref a4, .ref a5])), (o0, .inl (cL, 1, .inr (.inl (fun _ => 0))))] sz) := by
  refine va_MetW (cc := method_3_code) (maxL := 5) (ret := (some .int)) (hh := [(0, 10, 13, 13), (0, 10, 17, 15)]) (by decide) rfl ?_
  intro p e s m args below meth c s₁ B hml hv
  obtain ⟨rfl, hsz, hP, hK, hD0, hN, hT⟩ := hv
  have hx := B.exec
  have hb := B.bytes
  have hr := B.returns
  have ht : ∀ w ∈ wsA, w.before _ s = true := fun w h => atoms_spec (ws := (Cond.codeWith y_La_transition method_3_code 5 (some .int) [(0, 10, 13, 13), (0, 10, 17, 15)] :: wsA)) B.pre w (List.mem_cons_of_mem _ h)
  have hown : s.vm.findClass "NetUnfolderLaw" = some m.cls := findClass_of_methodNamed B.named
  have hlocks := B.notSynchronized
  have htab := hm_tab B (atoms_spec (ws := (Cond.codeWith y_La_transition method_3_code 5 (some .int) [(0, 10, 13, 13), (0, 10, 17, 15)] :: wsA)) B.pre _ List.mem_cons_self)
  subst hsz
  have hD := hD0.self (sz := s.heap.size)
  generalize hAe : va_A [(a0, .inr (0, [.ref a1, .ref a2, .ref a3, .ref a4, .ref a5])), (o0, .inl (cL, 1, .inr (.inl (fun _ => 0))))] s.heap.size = A at hD ⊢
  have hA : ∀ q : Nat, s.heap.size ≤ q → A q := fun q h => by rw [← hAe]; exact Or.inr h
  have hS : va_S A s.heap s.heap [] := va_S.rf
  have hl := lv_entry ([.ref a0, .int k0, .int k1, .ref o0]) (n := 5) (Nat.le_of_ble_eq_true rfl)
  rw [lg_entry_eq]
  generalize (lg_sl ([.ref a0, .int k0, .int k1, .ref o0]) ++ List.replicate (5 - (lg_sl ([.ref a0, .int k0, .int k1, .ref o0])).length) Slot.unset).toArray = ls at hl ⊢
  replace hl : lv_has ls 5 [(0, .ref a0), (1, .int k0), (2, .int k1), (3, .ref o0)] := hl
  refine lv_aload_n hx hb d_La_transition_0 rfl (lv_at hl 3 rfl) ?_
  refine lv_iconst (v := 0) hx hb d_La_transition_1 (by decide) ?_
  refine lv_aload_n hx hb d_La_transition_2 rfl (lv_at hl 0 rfl) ?_
  refine lv_iload_n hx hb d_La_transition_3 rfl (lv_at hl 1 rfl) ?_
  refine lv_iload_n hx hb d_La_transition_4 rfl (lv_at hl 2 rfl) ?_
  have hPc := hP.sub (ws' := [(a0, .inr (0, [.ref a1, .ref a2, .ref a3, .ref a4, .ref a5]))]) [0] rfl
  have hDc := hD.sub (ws' := [(a0, .inr (0, [.ref a1, .ref a2, .ref a3, .ref a4, .ref a5]))]) [0] (by decide) rfl
  have hFc := va_free (wc := [(a0, .inr (0, [.ref a1, .ref a2, .ref a3, .ref a4, .ref a5]))]) hD hS hA [0] rfl
  refine tx_callCatch1 (C := "NetUnfolder") (As := [.int k0, .int k1]) (rest := [.int 0, .ref o0]) (cls := "java/lang/IllegalArgumentException") ⟨hx, hb, hml, hown, ht⟩ (t_NU_transition_2 l hfl dC dI cI cL cZ _ a0 a1 a2 a3 a4 a5 k0 k1 h1 h2 h3) (cwV 2 ht (good_V wd_3_6 wd_3_7 wd_3_8 wd_1_1 wd_3_9) rfl rfl rfl (by decide +kernel) ⟨Nat.le_of_ble_eq_true rfl, Nat.le_of_ble_eq_true rfl⟩) ⟨fun a U g mk q => by obtain ⟨q0, q1, qP, qK, qD, qN, qT⟩ := q; exact ⟨q0, q1, qP, va_K.moved (u := U) (U := U.calling g mk a) (Vm.Alike.refl U.vm) qK, qD, NwA.same (u := U) rfl qN, ThA.same (u := U) rfl qT⟩, (va_recv (q0 := 0) (ci := 0) hK hP rfl rfl), fun U hU hW => ⟨rfl, by rw [hU], by rw [hU]; exact hPc, va_K.moved hW.alike hK, hDc.weaken (fun _ _ _ _ => trivial), NwA.warm hW hN, by rw [hU]; exact ThA.warm hW hT⟩⟩ rfl hl.1 (lv_room (Nat.le_of_ble_eq_true rfl)) d_La_transition_5 ⟨Nat.le_of_ble_eq_true rfl, Nat.le_of_ble_eq_true rfl⟩ htab (ht _ wd_3_4) (by decide) (by decide) (by decide) (fun _ _ _ _ h => h) (va_Nw.use rfl (hT.2.2.1 _ xc_IAE)) (fun x9 H1 hk1 => ?_)
  replace hP : va_P (dC, dI) clA [(a0, .inr (0, [.ref a1, .ref a2, .ref a3, .ref a4, .ref a5])), (o0, .inl (cL, 1, .inr (.inl (fun _ => 0))))] H1 := pu_keep2 hP hk1
  replace hS := pu_S hS hk1
  clear hPc hDc hFc hk1
  refine W.cs (cells' := 1) (slots' := 6) rfl rfl ?_
  refine lv_astore (lv' := [(4, .ref x9), (0, .ref a0), (1, .int k0), (2, .int k1), (3, .ref o0)]) hx hb d_La_transition_13 hl (by decide) rfl (fun ls hln => ?_)
  replace hl : lv_has ls 5 [(4, .ref x9), (0, .ref a0), (1, .int k0), (2, .int k1), (3, .ref o0)] := hln
  clear hln
  refine lv_iconst (v := 1) hx hb d_La_transition_15 (by decide) ?_
  have hP9 := hP.sub (ws' := [(a0, .inr (0, [.ref a1, .ref a2, .ref a3, .ref a4, .ref a5])), (o0, .inl (cL, 1, .inr (.inl (fun _ => 0))))]) [0, 1] rfl
  have hD9 := hD.sub (ws' := [(a0, .inr (0, [.ref a1, .ref a2, .ref a3, .ref a4, .ref a5])), (o0, .inl (cL, 1, .inr (.inl (fun _ => 0))))]) [0, 1] (by decide) rfl
  exact W.iret (v := 1) hx hb hr (fun t ht9 hW => ⟨⟨1, (), rfl, rfl, by rw [ht9]; exact hP9, hD9⟩, hS.F ht9⟩) hS.2.2 d_La_transition_16

set_option maxHeartbeats 4000000 in
set_option maxRecDepth 100000 in
theorem w_transition_3 (l : Launch) (hfl : l.flags = flags0) (dC : Nat → ClassId) (dI : Nat → Nat → Nat) (cI cL cZ : ClassId) (sz : Nat) (a0 : Nat) (o0 : Nat) (a1 : Nat) (a2 : Nat) (a3 : Nat) (a4 : Nat) (a5 : Nat) (k0 : Int32) (k1 : Int32) (h1 : ¬ k0 < 1) (h2 : ¬ 255 < k0) (h4 : 255 < k1) : Met l y_La_transition (Cond.codeWith y_La_transition method_3_code 5 (some .int) [(0, 10, 13, 13), (0, 10, 17, 15)] :: wsA) { frames := 7, cells := 1, slots := 6, locals := 118 } (va_Pc [.ref a0, .int k0, .int k1, .ref o0] (fun U => U.heap.size = sz ∧ va_P (dC, dI) clA [(a0, .inr (0, [.ref a1, .ref a2, .ref a3, .ref a4, .ref a5])), (o0, .inl (cL, 1, .inr (.inl (fun _ => 0))))] U.heap ∧ va_K (dC, dI) clA [(cI, .int), (cL, .long), (cZ, .boolean)] U ∧ va_D (fun _ => True) [(a0, .inr (0, [.ref a1, .ref a2, .ref a3, .ref a4, .ref a5])), (o0, .inl (cL, 1, .inr (.inl (fun _ => 0))))] ∧ NwA U ∧ ThA (fun _ => False) U U.heap)) (va_Qi (fun r (_ : Unit) => r = 1) (fun _ t => va_P (dC, dI) clA [(a0, .inr (0, [.ref a1, .ref a2, .ref a3, .ref a4, .ref a5])), (o0, .inl (cL, 1, .inr (.inl (fun _ => 0))))] t.heap ∧ va_D (va_A [(a0, .inr (0, [.ref a1, .ref a2, .ref a3, .ref a4, .ref a5])), (o0, .inl (cL, 1, .inr (.inl (fun _ => 0))))] sz) [(a0, .inr (0, [.ref a1, .ref a2, .ref a3, .ref a4, .ref a5])), (o0, .inl (cL, 1, .inr (.inl (fun _ => 0))))]) (va_A [(a0, .inr (0, [.ref a1, .ref a2, .ref a3, .ref a4, .ref a5])), (o0, .inl (cL, 1, .inr (.inl (fun _ => 0))))] sz)) 1 6 (va_A [(a0, .inr (0, [.ref a1, .ref a2, .ref a3, .ref a4, .ref a5])), (o0, .inl (cL, 1, .inr (.inl (fun _ => 0))))] sz) := by
  refine va_MetW (cc := method_3_code) (maxL := 5) (ret := (some .int)) (hh := [(0, 10, 13, 13), (0, 10, 17, 15)]) (by decide) rfl ?_
  intro p e s m args below meth c s₁ B hml hv
  obtain ⟨rfl, hsz, hP, hK, hD0, hN, hT⟩ := hv
  have hx := B.exec
  have hb := B.bytes
  have hr := B.returns
  have ht : ∀ w ∈ wsA, w.before _ s = true := fun w h => atoms_spec (ws := (Cond.codeWith y_La_transition method_3_code 5 (some .int) [(0, 10, 13, 13), (0, 10, 17, 15)] :: wsA)) B.pre w (List.mem_cons_of_mem _ h)
  have hown : s.vm.findClass "NetUnfolderLaw" = some m.cls := findClass_of_methodNamed B.named
  have hlocks := B.notSynchronized
  have htab := hm_tab B (atoms_spec (ws := (Cond.codeWith y_La_transition method_3_code 5 (some .int) [(0, 10, 13, 13), (0, 10, 17, 15)] :: wsA)) B.pre _ List.mem_cons_self)
  subst hsz
  have hD := hD0.self (sz := s.heap.size)
  generalize hAe : va_A [(a0, .inr (0, [.ref a1, .ref a2, .ref a3, .ref a4, .ref a5])), (o0, .inl (cL, 1, .inr (.inl (fun _ => 0))))] s.heap.size = A at hD ⊢
  have hA : ∀ q : Nat, s.heap.size ≤ q → A q := fun q h => by rw [← hAe]; exact Or.inr h
  have hS : va_S A s.heap s.heap [] := va_S.rf
  have hl := lv_entry ([.ref a0, .int k0, .int k1, .ref o0]) (n := 5) (Nat.le_of_ble_eq_true rfl)
  rw [lg_entry_eq]
  generalize (lg_sl ([.ref a0, .int k0, .int k1, .ref o0]) ++ List.replicate (5 - (lg_sl ([.ref a0, .int k0, .int k1, .ref o0])).length) Slot.unset).toArray = ls at hl ⊢
  replace hl : lv_has ls 5 [(0, .ref a0), (1, .int k0), (2, .int k1), (3, .ref o0)] := hl
  refine lv_aload_n hx hb d_La_transition_0 rfl (lv_at hl 3 rfl) ?_
  refine lv_iconst (v := 0) hx hb d_La_transition_1 (by decide) ?_
  refine lv_aload_n hx hb d_La_transition_2 rfl (lv_at hl 0 rfl) ?_
  refine lv_iload_n hx hb d_La_transition_3 rfl (lv_at hl 1 rfl) ?_
  refine lv_iload_n hx hb d_La_transition_4 rfl (lv_at hl 2 rfl) ?_
  have hPc := hP.sub (ws' := [(a0, .inr (0, [.ref a1, .ref a2, .ref a3, .ref a4, .ref a5]))]) [0] rfl
  have hDc := hD.sub (ws' := [(a0, .inr (0, [.ref a1, .ref a2, .ref a3, .ref a4, .ref a5]))]) [0] (by decide) rfl
  have hFc := va_free (wc := [(a0, .inr (0, [.ref a1, .ref a2, .ref a3, .ref a4, .ref a5]))]) hD hS hA [0] rfl
  refine tx_callCatch1 (C := "NetUnfolder") (As := [.int k0, .int k1]) (rest := [.int 0, .ref o0]) (cls := "java/lang/IllegalArgumentException") ⟨hx, hb, hml, hown, ht⟩ (t_NU_transition_3 l hfl dC dI cI cL cZ _ a0 a1 a2 a3 a4 a5 k0 k1 h1 h2 h4) (cwV 2 ht (good_V wd_3_6 wd_3_7 wd_3_8 wd_1_1 wd_3_9) rfl rfl rfl (by decide +kernel) ⟨Nat.le_of_ble_eq_true rfl, Nat.le_of_ble_eq_true rfl⟩) ⟨fun a U g mk q => by obtain ⟨q0, q1, qP, qK, qD, qN, qT⟩ := q; exact ⟨q0, q1, qP, va_K.moved (u := U) (U := U.calling g mk a) (Vm.Alike.refl U.vm) qK, qD, NwA.same (u := U) rfl qN, ThA.same (u := U) rfl qT⟩, (va_recv (q0 := 0) (ci := 0) hK hP rfl rfl), fun U hU hW => ⟨rfl, by rw [hU], by rw [hU]; exact hPc, va_K.moved hW.alike hK, hDc.weaken (fun _ _ _ _ => trivial), NwA.warm hW hN, by rw [hU]; exact ThA.warm hW hT⟩⟩ rfl hl.1 (lv_room (Nat.le_of_ble_eq_true rfl)) d_La_transition_5 ⟨Nat.le_of_ble_eq_true rfl, Nat.le_of_ble_eq_true rfl⟩ htab (ht _ wd_3_4) (by decide) (by decide) (by decide) (fun _ _ _ _ h => h) (va_Nw.use rfl (hT.2.2.1 _ xc_IAE)) (fun x9 H1 hk1 => ?_)
  replace hP : va_P (dC, dI) clA [(a0, .inr (0, [.ref a1, .ref a2, .ref a3, .ref a4, .ref a5])), (o0, .inl (cL, 1, .inr (.inl (fun _ => 0))))] H1 := pu_keep2 hP hk1
  replace hS := pu_S hS hk1
  clear hPc hDc hFc hk1
  refine W.cs (cells' := 1) (slots' := 6) rfl rfl ?_
  refine lv_astore (lv' := [(4, .ref x9), (0, .ref a0), (1, .int k0), (2, .int k1), (3, .ref o0)]) hx hb d_La_transition_13 hl (by decide) rfl (fun ls hln => ?_)
  replace hl : lv_has ls 5 [(4, .ref x9), (0, .ref a0), (1, .int k0), (2, .int k1), (3, .ref o0)] := hln
  clear hln
  refine lv_iconst (v := 1) hx hb d_La_transition_15 (by decide) ?_
  have hP9 := hP.sub (ws' := [(a0, .inr (0, [.ref a1, .ref a2, .ref a3, .ref a4, .ref a5])), (o0, .inl (cL, 1, .inr (.inl (fun _ => 0))))]) [0, 1] rfl
  have hD9 := hD.sub (ws' := [(a0, .inr (0, [.ref a1, .ref a2, .ref a3, .ref a4, .ref a5])), (o0, .inl (cL, 1, .inr (.inl (fun _ => 0))))]) [0, 1] (by decide) rfl
  exact W.iret (v := 1) hx hb hr (fun t ht9 hW => ⟨⟨1, (), rfl, rfl, by rw [ht9]; exact hP9, hD9⟩, hS.F ht9⟩) hS.2.2 d_La_transition_16

set_option maxHeartbeats 4000000 in
set_option maxRecDepth 100000 in
theorem w_first_ok (l : Launch) (hfl : l.flags = flags0) (dC : Nat → ClassId) (dI : Nat → Nat → Nat) (cI cL cZ : ClassId) (sz : Nat) (a0 : Nat) (a2 : Nat) (a12 : Nat) (a3 : Nat) (a1 : Nat) (a4 : Nat) (a5 : Nat) (a8 : Nat) (a9 : Nat) (a10 : Nat) (a11 : Nat) (a13 : Nat) (a14 : Nat) (a15 : Nat) (a16 : Nat) (a17 : Nat) (a18 : Nat) (a6 : Nat) (a7 : Nat) (k0 : Int32) (h1 : ¬ k0 < 0) (h2 : ¬ 255 < k0) : Met l y_La_first (Cond.codeWith y_La_first method_4_code 3 (some .int) [(0, 5, 8, 13)] :: wsA) { frames := 4, cells := 0, slots := 0, locals := 85 } (va_Pc [.ref a0, .int k0] (fun U => U.heap.size = sz ∧ va_P (dC, dI) clA [(a0, .inr (0, [.ref a1, .ref a2, .ref a3, .ref a4, .ref a5])), (a2, .inr (2, [.int 0, .ref a8, .ref a9, .ref a10, .ref a11, .ref a12, .int 0, .ref a13, .ref a14, .ref a15, .ref a16, .ref a17, .int 0, .int 0])), (a12, .inl (cL, 8, .inr (.inl (fun _ => 0)))), (a3, .inr (3, [.ref a18, .int (-1)])), (a1, .inr (1, [.ref a6, .ref a7, .int 0, .int 0]))] U.heap ∧ va_K (dC, dI) clA [(cI, .int), (cL, .long), (cZ, .boolean)] U ∧ va_D (fun _ => True) [(a0, .inr (0, [.ref a1, .ref a2, .ref a3, .ref a4, .ref a5])), (a2, .inr (2, [.int 0, .ref a8, .ref a9, .ref a10, .ref a11, .ref a12, .int 0, .ref a13, .ref a14, .ref a15, .ref a16, .ref a17, .int 0, .int 0])), (a12, .inl (cL, 8, .inr (.inl (fun _ => 0)))), (a3, .inr (3, [.ref a18, .int (-1)])), (a1, .inr (1, [.ref a6, .ref a7, .int 0, .int 0]))] ∧ NwA U ∧ ThA (fun _ => False) U U.heap)) (va_Qi (fun r (_ : Unit) => r = 0) (fun _ t => va_P (dC, dI) clA [(a1, .inr (1, [.ref a6, .ref a7, .int 0, .int k0])), (a0, .inr (0, [.ref a1, .ref a2, .ref a3, .ref a4, .ref a5])), (a2, .inr (2, [.int 0, .ref a8, .ref a9, .ref a10, .ref a11, .ref a12, .int 0, .ref a13, .ref a14, .ref a15, .ref a16, .ref a17, .int 0, .int 0])), (a12, .inl (cL, 8, .inr (.inl (fun _ => 0)))), (a3, .inr (3, [.ref a18, .int (-1)]))] t.heap ∧ va_D (va_A [(a0, .inr (0, [.ref a1, .ref a2, .ref a3, .ref a4, .ref a5])), (a2, .inr (2, [.int 0, .ref a8, .ref a9, .ref a10, .ref a11, .ref a12, .int 0, .ref a13, .ref a14, .ref a15, .ref a16, .ref a17, .int 0, .int 0])), (a12, .inl (cL, 8, .inr (.inl (fun _ => 0)))), (a3, .inr (3, [.ref a18, .int (-1)])), (a1, .inr (1, [.ref a6, .ref a7, .int 0, .int 0]))] sz) [(a1, .inr (1, [.ref a6, .ref a7, .int 0, .int k0])), (a0, .inr (0, [.ref a1, .ref a2, .ref a3, .ref a4, .ref a5])), (a2, .inr (2, [.int 0, .ref a8, .ref a9, .ref a10, .ref a11, .ref a12, .int 0, .ref a13, .ref a14, .ref a15, .ref a16, .ref a17, .int 0, .int 0])), (a12, .inl (cL, 8, .inr (.inl (fun _ => 0)))), (a3, .inr (3, [.ref a18, .int (-1)]))]) (va_A [(a0, .inr (0, [.ref a1, .ref a2, .ref a3, .ref a4, .ref a5])), (a2, .inr (2, [.int 0, .ref a8, .ref a9, .ref a10, .ref a11, .ref a12, .int 0, .ref a13, .ref a14, .ref a15, .ref a16, .ref a17, .int 0, .int 0])), (a12, .inl (cL, 8, .inr (.inl (fun _ => 0)))), (a3, .inr (3, [.ref a18, .int (-1)])), (a1, .inr (1, [.ref a6, .ref a7, .int 0, .int 0]))] sz)) 0 0 (va_A [(a0, .inr (0, [.ref a1, .ref a2, .ref a3, .ref a4, .ref a5])), (a2, .inr (2, [.int 0, .ref a8, .ref a9, .ref a10, .ref a11, .ref a12, .int 0, .ref a13, .ref a14, .ref a15, .ref a16, .ref a17, .int 0, .int 0])), (a12, .inl (cL, 8, .inr (.inl (fun _ => 0)))), (a3, .inr (3, [.ref a18, .int (-1)])), (a1, .inr (1, [.ref a6, .ref a7, .int 0, .int 0]))] sz) := by
  refine va_MetW (cc := method_4_code) (maxL := 3) (ret := (some .int)) (hh := [(0, 5, 8, 13)]) (by decide) rfl ?_
  intro p e s m args below meth c s₁ B hml hv
  obtain ⟨rfl, hsz, hP, hK, hD0, hN, hT⟩ := hv
  have hx := B.exec
  have hb := B.bytes
  have hr := B.returns
  have ht : ∀ w ∈ wsA, w.before _ s = true := fun w h => atoms_spec (ws := (Cond.codeWith y_La_first method_4_code 3 (some .int) [(0, 5, 8, 13)] :: wsA)) B.pre w (List.mem_cons_of_mem _ h)
  have hown : s.vm.findClass "NetUnfolderLaw" = some m.cls := findClass_of_methodNamed B.named
  have hlocks := B.notSynchronized
  have htab := hm_tab B (atoms_spec (ws := (Cond.codeWith y_La_first method_4_code 3 (some .int) [(0, 5, 8, 13)] :: wsA)) B.pre _ List.mem_cons_self)
  subst hsz
  have hD := hD0.self (sz := s.heap.size)
  generalize hAe : va_A [(a0, .inr (0, [.ref a1, .ref a2, .ref a3, .ref a4, .ref a5])), (a2, .inr (2, [.int 0, .ref a8, .ref a9, .ref a10, .ref a11, .ref a12, .int 0, .ref a13, .ref a14, .ref a15, .ref a16, .ref a17, .int 0, .int 0])), (a12, .inl (cL, 8, .inr (.inl (fun _ => 0)))), (a3, .inr (3, [.ref a18, .int (-1)])), (a1, .inr (1, [.ref a6, .ref a7, .int 0, .int 0]))] s.heap.size = A at hD ⊢
  have hA : ∀ q : Nat, s.heap.size ≤ q → A q := fun q h => by rw [← hAe]; exact Or.inr h
  have hS : va_S A s.heap s.heap [] := va_S.rf
  have hl := lv_entry ([.ref a0, .int k0]) (n := 3) (Nat.le_of_ble_eq_true rfl)
  rw [lg_entry_eq]
  generalize (lg_sl ([.ref a0, .int k0]) ++ List.replicate (3 - (lg_sl ([.ref a0, .int k0])).length) Slot.unset).toArray = ls at hl ⊢
  replace hl : lv_has ls 3 [(0, .ref a0), (1, .int k0)] := hl
  refine lv_aload_n hx hb d_La_first_0 rfl (lv_at hl 0 rfl) ?_
  refine lv_iload_n hx hb d_La_first_1 rfl (lv_at hl 1 rfl) ?_
  have hPc := hP.sub (ws' := [(a0, .inr (0, [.ref a1, .ref a2, .ref a3, .ref a4, .ref a5])), (a2, .inr (2, [.int 0, .ref a8, .ref a9, .ref a10, .ref a11, .ref a12, .int 0, .ref a13, .ref a14, .ref a15, .ref a16, .ref a17, .int 0, .int 0])), (a12, .inl (cL, 8, .inr (.inl (fun _ => 0)))), (a3, .inr (3, [.ref a18, .int (-1)])), (a1, .inr (1, [.ref a6, .ref a7, .int 0, .int 0]))]) [0, 1, 2, 3, 4] rfl
  have hDc := hD.sub (ws' := [(a0, .inr (0, [.ref a1, .ref a2, .ref a3, .ref a4, .ref a5])), (a2, .inr (2, [.int 0, .ref a8, .ref a9, .ref a10, .ref a11, .ref a12, .int 0, .ref a13, .ref a14, .ref a15, .ref a16, .ref a17, .int 0, .int 0])), (a12, .inl (cL, 8, .inr (.inl (fun _ => 0)))), (a3, .inr (3, [.ref a18, .int (-1)])), (a1, .inr (1, [.ref a6, .ref a7, .int 0, .int 0]))]) [0, 1, 2, 3, 4] (by decide) rfl
  have hFc := va_free (wc := [(a0, .inr (0, [.ref a1, .ref a2, .ref a3, .ref a4, .ref a5])), (a2, .inr (2, [.int 0, .ref a8, .ref a9, .ref a10, .ref a11, .ref a12, .int 0, .ref a13, .ref a14, .ref a15, .ref a16, .ref a17, .int 0, .int 0])), (a12, .inl (cL, 8, .inr (.inl (fun _ => 0)))), (a3, .inr (3, [.ref a18, .int (-1)])), (a1, .inr (1, [.ref a6, .ref a7, .int 0, .int 0]))]) hD hS hA [0, 1, 2, 3, 4] rfl
  refine va_callv (va_runV (C := "NetUnfolder") (As := [.int k0]) (rest := []) ⟨hx, hb, hml, hown, ht⟩ (c_NU_first_ok l dC dI cI cL cZ _ a0 a2 a12 a3 a1 a4 a5 a8 a9 a10 a11 a13 a14 a15 a16 a17 a18 a6 a7 k0 h1 h2) (cwV 1 ht (good_V wd_3_97 wd_3_98 wd_3_99 wd_1_1 wd_3_100) rfl rfl rfl (by decide +kernel) ⟨Nat.le_of_ble_eq_true rfl, Nat.le_of_ble_eq_true rfl⟩) ⟨fun a U g mk q => by obtain ⟨q0, q1, qP, qK, qD, qN⟩ := q; exact ⟨q0, q1, qP, va_K.moved (u := U) (U := U.calling g mk a) (Vm.Alike.refl U.vm) qK, qD, NwA.same (u := U) rfl qN⟩, (va_recv (q0 := 0) (ci := 0) hK hP rfl rfl), fun U hU hW => ⟨rfl, by rw [hU], by rw [hU]; exact hPc, va_K.moved hW.alike hK, hDc.weaken (fun _ _ _ _ => trivial), NwA.warm hW hN⟩⟩ rfl rfl hl.1 rfl (lv_room (Nat.le_of_ble_eq_true rfl)) d_La_first_2 ⟨Nat.le_of_ble_eq_true rfl, Nat.le_of_ble_eq_true rfl⟩) hS (fun q _ h => hFc q h) hFc (fun u t H1 locs ht9 hvm hw2 hB hz1 hk1 hSn => ?_)
  obtain ⟨hP1, hD1⟩ := hB
  rw [ht9] at hP1
  obtain ⟨hPn, hDn⟩ := va_join (wr := []) (w1 := [(a1, .inr (1, [.ref a6, .ref a7, .int 0, .int k0])), (a0, .inr (0, [.ref a1, .ref a2, .ref a3, .ref a4, .ref a5])), (a2, .inr (2, [.int 0, .ref a8, .ref a9, .ref a10, .ref a11, .ref a12, .int 0, .ref a13, .ref a14, .ref a15, .ref a16, .ref a17, .int 0, .int 0])), (a12, .inl (cL, 8, .inr (.inl (fun _ => 0)))), (a3, .inr (3, [.ref a18, .int (-1)]))]) hP hD [0, 1, 2, 3, 4] [] rfl rfl (by decide) (by decide) hk1 hFc hP1 hD1
  replace hP : va_P (dC, dI) clA [(a1, .inr (1, [.ref a6, .ref a7, .int 0, .int k0])), (a0, .inr (0, [.ref a1, .ref a2, .ref a3, .ref a4, .ref a5])), (a2, .inr (2, [.int 0, .ref a8, .ref a9, .ref a10, .ref a11, .ref a12, .int 0, .ref a13, .ref a14, .ref a15, .ref a16, .ref a17, .int 0, .int 0])), (a12, .inl (cL, 8, .inr (.inl (fun _ => 0)))), (a3, .inr (3, [.ref a18, .int (-1)]))] H1 := hPn
  replace hD : va_D A [(a1, .inr (1, [.ref a6, .ref a7, .int 0, .int k0])), (a0, .inr (0, [.ref a1, .ref a2, .ref a3, .ref a4, .ref a5])), (a2, .inr (2, [.int 0, .ref a8, .ref a9, .ref a10, .ref a11, .ref a12, .int 0, .ref a13, .ref a14, .ref a15, .ref a16, .ref a17, .int 0, .int 0])), (a12, .inl (cL, 8, .inr (.inl (fun _ => 0)))), (a3, .inr (3, [.ref a18, .int (-1)]))] := hDn
  replace hS := hSn
  clear hPn hDn hSn
  clear hPc hDc hFc hP1 hD1 hk1 hz1 ht9 hvm
  refine W.cs (cells' := 0) (slots' := 0) rfl rfl ?_
  refine lv_goto (tgt := 11) hx hb d_La_first_5 (by decide) ?_
  refine lv_iconst (v := 0) hx hb d_La_first_11 (by decide) ?_
  have hP9 := hP.sub (ws' := [(a1, .inr (1, [.ref a6, .ref a7, .int 0, .int k0])), (a0, .inr (0, [.ref a1, .ref a2, .ref a3, .ref a4, .ref a5])), (a2, .inr (2, [.int 0, .ref a8, .ref a9, .ref a10, .ref a11, .ref a12, .int 0, .ref a13, .ref a14, .ref a15, .ref a16, .ref a17, .int 0, .int 0])), (a12, .inl (cL, 8, .inr (.inl (fun _ => 0)))), (a3, .inr (3, [.ref a18, .int (-1)]))]) [0, 1, 2, 3, 4] rfl
  have hD9 := hD.sub (ws' := [(a1, .inr (1, [.ref a6, .ref a7, .int 0, .int k0])), (a0, .inr (0, [.ref a1, .ref a2, .ref a3, .ref a4, .ref a5])), (a2, .inr (2, [.int 0, .ref a8, .ref a9, .ref a10, .ref a11, .ref a12, .int 0, .ref a13, .ref a14, .ref a15, .ref a16, .ref a17, .int 0, .int 0])), (a12, .inl (cL, 8, .inr (.inl (fun _ => 0)))), (a3, .inr (3, [.ref a18, .int (-1)]))]) [0, 1, 2, 3, 4] (by decide) rfl
  exact W.iret (v := 0) hx hb hr (fun t ht9 hW => ⟨⟨0, (), rfl, rfl, by rw [ht9]; exact hP9, hD9⟩, hS.F ht9⟩) hS.2.2 d_La_first_12

set_option maxHeartbeats 4000000 in
set_option maxRecDepth 100000 in
theorem w_first_0 (l : Launch) (hfl : l.flags = flags0) (dC : Nat → ClassId) (dI : Nat → Nat → Nat) (cI cL cZ : ClassId) (sz : Nat) (a0 : Nat) (a1 : Nat) (a2 : Nat) (a3 : Nat) (a4 : Nat) (a5 : Nat) (k0 : Int32) (h1 : k0 < 0) : Met l y_La_first (Cond.codeWith y_La_first method_4_code 3 (some .int) [(0, 5, 8, 13)] :: wsA) { frames := 7, cells := 1, slots := 6, locals := 117 } (va_Pc [.ref a0, .int k0] (fun U => U.heap.size = sz ∧ va_P (dC, dI) clA [(a0, .inr (0, [.ref a1, .ref a2, .ref a3, .ref a4, .ref a5]))] U.heap ∧ va_K (dC, dI) clA [(cI, .int), (cL, .long), (cZ, .boolean)] U ∧ va_D (fun _ => True) [(a0, .inr (0, [.ref a1, .ref a2, .ref a3, .ref a4, .ref a5]))] ∧ NwA U ∧ ThA (fun _ => False) U U.heap)) (va_Qi (fun r (_ : Unit) => r = 1) (fun _ t => va_P (dC, dI) clA [(a0, .inr (0, [.ref a1, .ref a2, .ref a3, .ref a4, .ref a5]))] t.heap ∧ va_D (va_A [(a0, .inr (0, [.ref a1, .ref a2, .ref a3, .ref a4, .ref a5]))] sz) [(a0, .inr (0, [.ref a1, .ref a2, .ref a3, .ref a4, .ref a5]))]) (va_A [(a0, .inr (0, [.ref a1, .ref a2, .ref a3, .ref a4, .ref a5]))] sz)) 1 6 (va_A [(a0, .inr (0, [.ref a1, .ref a2, .ref a3, .ref a4, .ref a5]))] sz) := by
  refine va_MetW (cc := method_4_code) (maxL := 3) (ret := (some .int)) (hh := [(0, 5, 8, 13)]) (by decide) rfl ?_
  intro p e s m args below meth c s₁ B hml hv
  obtain ⟨rfl, hsz, hP, hK, hD0, hN, hT⟩ := hv
  have hx := B.exec
  have hb := B.bytes
  have hr := B.returns
  have ht : ∀ w ∈ wsA, w.before _ s = true := fun w h => atoms_spec (ws := (Cond.codeWith y_La_first method_4_code 3 (some .int) [(0, 5, 8, 13)] :: wsA)) B.pre w (List.mem_cons_of_mem _ h)
  have hown : s.vm.findClass "NetUnfolderLaw" = some m.cls := findClass_of_methodNamed B.named
  have hlocks := B.notSynchronized
  have htab := hm_tab B (atoms_spec (ws := (Cond.codeWith y_La_first method_4_code 3 (some .int) [(0, 5, 8, 13)] :: wsA)) B.pre _ List.mem_cons_self)
  subst hsz
  have hD := hD0.self (sz := s.heap.size)
  generalize hAe : va_A [(a0, .inr (0, [.ref a1, .ref a2, .ref a3, .ref a4, .ref a5]))] s.heap.size = A at hD ⊢
  have hA : ∀ q : Nat, s.heap.size ≤ q → A q := fun q h => by rw [← hAe]; exact Or.inr h
  have hS : va_S A s.heap s.heap [] := va_S.rf
  have hl := lv_entry ([.ref a0, .int k0]) (n := 3) (Nat.le_of_ble_eq_true rfl)
  rw [lg_entry_eq]
  generalize (lg_sl ([.ref a0, .int k0]) ++ List.replicate (3 - (lg_sl ([.ref a0, .int k0])).length) Slot.unset).toArray = ls at hl ⊢
  replace hl : lv_has ls 3 [(0, .ref a0), (1, .int k0)] := hl
  refine lv_aload_n hx hb d_La_first_0 rfl (lv_at hl 0 rfl) ?_
  refine lv_iload_n hx hb d_La_first_1 rfl (lv_at hl 1 rfl) ?_
  have hPc := hP.sub (ws' := [(a0, .inr (0, [.ref a1, .ref a2, .ref a3, .ref a4, .ref a5]))]) [0] rfl
  have hDc := hD.sub (ws' := [(a0, .inr (0, [.ref a1, .ref a2, .ref a3, .ref a4, .ref a5]))]) [0] (by decide) rfl
  have hFc := va_free (wc := [(a0, .inr (0, [.ref a1, .ref a2, .ref a3, .ref a4, .ref a5]))]) hD hS hA [0] rfl
  refine tx_callCatch1 (C := "NetUnfolder") (As := [.int k0]) (rest := []) (cls := "java/lang/IllegalArgumentException") ⟨hx, hb, hml, hown, ht⟩ (t_NU_first_0 l hfl dC dI cI cL cZ _ a0 a1 a2 a3 a4 a5 k0 h1) (cwV 1 ht (good_V wd_3_97 wd_3_98 wd_3_99 wd_1_1 wd_3_100) rfl rfl rfl (by decide +kernel) ⟨Nat.le_of_ble_eq_true rfl, Nat.le_of_ble_eq_true rfl⟩) ⟨fun a U g mk q => by obtain ⟨q0, q1, qP, qK, qD, qN, qT⟩ := q; exact ⟨q0, q1, qP, va_K.moved (u := U) (U := U.calling g mk a) (Vm.Alike.refl U.vm) qK, qD, NwA.same (u := U) rfl qN, ThA.same (u := U) rfl qT⟩, (va_recv (q0 := 0) (ci := 0) hK hP rfl rfl), fun U hU hW => ⟨rfl, by rw [hU], by rw [hU]; exact hPc, va_K.moved hW.alike hK, hDc.weaken (fun _ _ _ _ => trivial), NwA.warm hW hN, by rw [hU]; exact ThA.warm hW hT⟩⟩ rfl hl.1 (lv_room (Nat.le_of_ble_eq_true rfl)) d_La_first_2 ⟨Nat.le_of_ble_eq_true rfl, Nat.le_of_ble_eq_true rfl⟩ htab (ht _ wd_3_4) (by decide) (by decide) (by decide) (fun _ _ _ _ h => h) (va_Nw.use rfl (hT.2.2.1 _ xc_IAE)) (fun x9 H1 hk1 => ?_)
  replace hP : va_P (dC, dI) clA [(a0, .inr (0, [.ref a1, .ref a2, .ref a3, .ref a4, .ref a5]))] H1 := pu_keep2 hP hk1
  replace hS := pu_S hS hk1
  clear hPc hDc hFc hk1
  refine W.cs (cells' := 1) (slots' := 6) rfl rfl ?_
  refine lv_astore_n (lv' := [(2, .ref x9), (0, .ref a0), (1, .int k0)]) hx hb d_La_first_8 rfl hl (by decide) rfl (fun ls hln => ?_)
  replace hl : lv_has ls 3 [(2, .ref x9), (0, .ref a0), (1, .int k0)] := hln
  clear hln
  refine lv_iconst (v := 1) hx hb d_La_first_9 (by decide) ?_
  have hP9 := hP.sub (ws' := [(a0, .inr (0, [.ref a1, .ref a2, .ref a3, .ref a4, .ref a5]))]) [0] rfl
  have hD9 := hD.sub (ws' := [(a0, .inr (0, [.ref a1, .ref a2, .ref a3, .ref a4, .ref a5]))]) [0] (by decide) rfl
  exact W.iret (v := 1) hx hb hr (fun t ht9 hW => ⟨⟨1, (), rfl, rfl, by rw [ht9]; exact hP9, hD9⟩, hS.F ht9⟩) hS.2.2 d_La_first_10

set_option maxHeartbeats 4000000 in
set_option maxRecDepth 100000 in
theorem w_first_1 (l : Launch) (hfl : l.flags = flags0) (dC : Nat → ClassId) (dI : Nat → Nat → Nat) (cI cL cZ : ClassId) (sz : Nat) (a0 : Nat) (a1 : Nat) (a2 : Nat) (a3 : Nat) (a4 : Nat) (a5 : Nat) (k0 : Int32) (h2 : 255 < k0) : Met l y_La_first (Cond.codeWith y_La_first method_4_code 3 (some .int) [(0, 5, 8, 13)] :: wsA) { frames := 7, cells := 1, slots := 6, locals := 117 } (va_Pc [.ref a0, .int k0] (fun U => U.heap.size = sz ∧ va_P (dC, dI) clA [(a0, .inr (0, [.ref a1, .ref a2, .ref a3, .ref a4, .ref a5]))] U.heap ∧ va_K (dC, dI) clA [(cI, .int), (cL, .long), (cZ, .boolean)] U ∧ va_D (fun _ => True) [(a0, .inr (0, [.ref a1, .ref a2, .ref a3, .ref a4, .ref a5]))] ∧ NwA U ∧ ThA (fun _ => False) U U.heap)) (va_Qi (fun r (_ : Unit) => r = 1) (fun _ t => va_P (dC, dI) clA [(a0, .inr (0, [.ref a1, .ref a2, .ref a3, .ref a4, .ref a5]))] t.heap ∧ va_D (va_A [(a0, .inr (0, [.ref a1, .ref a2, .ref a3, .ref a4, .ref a5]))] sz) [(a0, .inr (0, [.ref a1, .ref a2, .ref a3, .ref a4, .ref a5]))]) (va_A [(a0, .inr (0, [.ref a1, .ref a2, .ref a3, .ref a4, .ref a5]))] sz)) 1 6 (va_A [(a0, .inr (0, [.ref a1, .ref a2, .ref a3, .ref a4, .ref a5]))] sz) := by
  refine va_MetW (cc := method_4_code) (maxL := 3) (ret := (some .int)) (hh := [(0, 5, 8, 13)]) (by decide) rfl ?_
  intro p e s m args below meth c s₁ B hml hv
  obtain ⟨rfl, hsz, hP, hK, hD0, hN, hT⟩ := hv
  have hx := B.exec
  have hb := B.bytes
  have hr := B.returns
  have ht : ∀ w ∈ wsA, w.before _ s = true := fun w h => atoms_spec (ws := (Cond.codeWith y_La_first method_4_code 3 (some .int) [(0, 5, 8, 13)] :: wsA)) B.pre w (List.mem_cons_of_mem _ h)
  have hown : s.vm.findClass "NetUnfolderLaw" = some m.cls := findClass_of_methodNamed B.named
  have hlocks := B.notSynchronized
  have htab := hm_tab B (atoms_spec (ws := (Cond.codeWith y_La_first method_4_code 3 (some .int) [(0, 5, 8, 13)] :: wsA)) B.pre _ List.mem_cons_self)
  subst hsz
  have hD := hD0.self (sz := s.heap.size)
  generalize hAe : va_A [(a0, .inr (0, [.ref a1, .ref a2, .ref a3, .ref a4, .ref a5]))] s.heap.size = A at hD ⊢
  have hA : ∀ q : Nat, s.heap.size ≤ q → A q := fun q h => by rw [← hAe]; exact Or.inr h
  have hS : va_S A s.heap s.heap [] := va_S.rf
  have hl := lv_entry ([.ref a0, .int k0]) (n := 3) (Nat.le_of_ble_eq_true rfl)
  rw [lg_entry_eq]
  generalize (lg_sl ([.ref a0, .int k0]) ++ List.replicate (3 - (lg_sl ([.ref a0, .int k0])).length) Slot.unset).toArray = ls at hl ⊢
  replace hl : lv_has ls 3 [(0, .ref a0), (1, .int k0)] := hl
  refine lv_aload_n hx hb d_La_first_0 rfl (lv_at hl 0 rfl) ?_
  refine lv_iload_n hx hb d_La_first_1 rfl (lv_at hl 1 rfl) ?_
  have hPc := hP.sub (ws' := [(a0, .inr (0, [.ref a1, .ref a2, .ref a3, .ref a4, .ref a5]))]) [0] rfl
  have hDc := hD.sub (ws' := [(a0, .inr (0, [.ref a1, .ref a2, .ref a3, .ref a4, .ref a5]))]) [0] (by decide) rfl
  have hFc := va_free (wc := [(a0, .inr (0, [.ref a1, .ref a2, .ref a3, .ref a4, .ref a5]))]) hD hS hA [0] rfl
  refine tx_callCatch1 (C := "NetUnfolder") (As := [.int k0]) (rest := []) (cls := "java/lang/IllegalArgumentException") ⟨hx, hb, hml, hown, ht⟩ (t_NU_first_1 l hfl dC dI cI cL cZ _ a0 a1 a2 a3 a4 a5 k0 h2) (cwV 1 ht (good_V wd_3_97 wd_3_98 wd_3_99 wd_1_1 wd_3_100) rfl rfl rfl (by decide +kernel) ⟨Nat.le_of_ble_eq_true rfl, Nat.le_of_ble_eq_true rfl⟩) ⟨fun a U g mk q => by obtain ⟨q0, q1, qP, qK, qD, qN, qT⟩ := q; exact ⟨q0, q1, qP, va_K.moved (u := U) (U := U.calling g mk a) (Vm.Alike.refl U.vm) qK, qD, NwA.same (u := U) rfl qN, ThA.same (u := U) rfl qT⟩, (va_recv (q0 := 0) (ci := 0) hK hP rfl rfl), fun U hU hW => ⟨rfl, by rw [hU], by rw [hU]; exact hPc, va_K.moved hW.alike hK, hDc.weaken (fun _ _ _ _ => trivial), NwA.warm hW hN, by rw [hU]; exact ThA.warm hW hT⟩⟩ rfl hl.1 (lv_room (Nat.le_of_ble_eq_true rfl)) d_La_first_2 ⟨Nat.le_of_ble_eq_true rfl, Nat.le_of_ble_eq_true rfl⟩ htab (ht _ wd_3_4) (by decide) (by decide) (by decide) (fun _ _ _ _ h => h) (va_Nw.use rfl (hT.2.2.1 _ xc_IAE)) (fun x9 H1 hk1 => ?_)
  replace hP : va_P (dC, dI) clA [(a0, .inr (0, [.ref a1, .ref a2, .ref a3, .ref a4, .ref a5]))] H1 := pu_keep2 hP hk1
  replace hS := pu_S hS hk1
  clear hPc hDc hFc hk1
  refine W.cs (cells' := 1) (slots' := 6) rfl rfl ?_
  refine lv_astore_n (lv' := [(2, .ref x9), (0, .ref a0), (1, .int k0)]) hx hb d_La_first_8 rfl hl (by decide) rfl (fun ls hln => ?_)
  replace hl : lv_has ls 3 [(2, .ref x9), (0, .ref a0), (1, .int k0)] := hln
  clear hln
  refine lv_iconst (v := 1) hx hb d_La_first_9 (by decide) ?_
  have hP9 := hP.sub (ws' := [(a0, .inr (0, [.ref a1, .ref a2, .ref a3, .ref a4, .ref a5]))]) [0] rfl
  have hD9 := hD.sub (ws' := [(a0, .inr (0, [.ref a1, .ref a2, .ref a3, .ref a4, .ref a5]))]) [0] (by decide) rfl
  exact W.iret (v := 1) hx hb hr (fun t ht9 hW => ⟨⟨1, (), rfl, rfl, by rw [ht9]; exact hP9, hD9⟩, hS.F ht9⟩) hS.2.2 d_La_first_10

set_option maxHeartbeats 4000000 in
set_option maxRecDepth 100000 in
theorem w_reach_0 (l : Launch) (hfl : l.flags = flags0) (dC : Nat → ClassId) (dI : Nat → Nat → Nat) (cI cL cZ : ClassId) (sz : Nat) (a0 : Nat) (o0 : Nat) (a1 : Nat) (a2 : Nat) (a3 : Nat) (a4 : Nat) (a5 : Nat) (k0 : Int32) (h1 : k0 < 0) : Met l y_La_reach (Cond.codeWith y_La_reach method_5_code 4 (some .int) [(0, 9, 12, 13), (0, 9, 15, 15)] :: wsA) { frames := 7, cells := 1, slots := 6, locals := 117 } (va_Pc [.ref a0, .int k0, .ref o0] (fun U => U.heap.size = sz ∧ va_P (dC, dI) clA [(a0, .inr (0, [.ref a1, .ref a2, .ref a3, .ref a4, .ref a5])), (o0, .inl (cL, 1, .inr (.inl (fun _ => 0))))] U.heap ∧ va_K (dC, dI) clA [(cI, .int), (cL, .long), (cZ, .boolean)] U ∧ va_D (fun _ => True) [(a0, .inr (0, [.ref a1, .ref a2, .ref a3, .ref a4, .ref a5])), (o0, .inl (cL, 1, .inr (.inl (fun _ => 0))))] ∧ NwA U ∧ ThA (fun _ => False) U U.heap)) (va_Qi (fun r (_ : Unit) => r = 1) (fun _ t => va_P (dC, dI) clA [(a0, .inr (0, [.ref a1, .ref a2, .ref a3, .ref a4, .ref a5])), (o0, .inl (cL, 1, .inr (.inl (fun _ => 0))))] t.heap ∧ va_D (va_A [(a0, .inr (0, [.ref a1, .ref a2, .ref a3, .ref a4, .ref a5])), (o0, .inl (cL, 1, .inr (.inl (fun _ => 0))))] sz) [(a0, .inr (0, [.ref a1, .ref a2, .ref a3, .ref a4, .ref a5])), (o0, .inl (cL, 1, .inr (.inl (fun _ => 0))))]) (va_A [(a0, .inr (0, [.ref a1, .ref a2, .ref a3, .ref a4, .ref a5])), (o0, .inl (cL, 1, .inr (.inl (fun _ => 0))))] sz)) 1 6 (va_A [(a0, .inr (0, [.ref a1, .ref a2, .ref a3, .ref a4, .ref a5])), (o0, .inl (cL, 1, .inr (.inl (fun _ => 0))))] sz) := by
  refine va_MetW (cc := method_5_code) (maxL := 4) (ret := (some .int)) (hh := [(0, 9, 12, 13), (0, 9, 15, 15)]) (by decide) rfl ?_
  intro p e s m args below meth c s₁ B hml hv
  obtain ⟨rfl, hsz, hP, hK, hD0, hN, hT⟩ := hv
  have hx := B.exec
  have hb := B.bytes
  have hr := B.returns
  have ht : ∀ w ∈ wsA, w.before _ s = true := fun w h => atoms_spec (ws := (Cond.codeWith y_La_reach method_5_code 4 (some .int) [(0, 9, 12, 13), (0, 9, 15, 15)] :: wsA)) B.pre w (List.mem_cons_of_mem _ h)
  have hown : s.vm.findClass "NetUnfolderLaw" = some m.cls := findClass_of_methodNamed B.named
  have hlocks := B.notSynchronized
  have htab := hm_tab B (atoms_spec (ws := (Cond.codeWith y_La_reach method_5_code 4 (some .int) [(0, 9, 12, 13), (0, 9, 15, 15)] :: wsA)) B.pre _ List.mem_cons_self)
  subst hsz
  have hD := hD0.self (sz := s.heap.size)
  generalize hAe : va_A [(a0, .inr (0, [.ref a1, .ref a2, .ref a3, .ref a4, .ref a5])), (o0, .inl (cL, 1, .inr (.inl (fun _ => 0))))] s.heap.size = A at hD ⊢
  have hA : ∀ q : Nat, s.heap.size ≤ q → A q := fun q h => by rw [← hAe]; exact Or.inr h
  have hS : va_S A s.heap s.heap [] := va_S.rf
  have hl := lv_entry ([.ref a0, .int k0, .ref o0]) (n := 4) (Nat.le_of_ble_eq_true rfl)
  rw [lg_entry_eq]
  generalize (lg_sl ([.ref a0, .int k0, .ref o0]) ++ List.replicate (4 - (lg_sl ([.ref a0, .int k0, .ref o0])).length) Slot.unset).toArray = ls at hl ⊢
  replace hl : lv_has ls 4 [(0, .ref a0), (1, .int k0), (2, .ref o0)] := hl
  refine lv_aload_n hx hb d_La_reach_0 rfl (lv_at hl 2 rfl) ?_
  refine lv_iconst (v := 0) hx hb d_La_reach_1 (by decide) ?_
  refine lv_aload_n hx hb d_La_reach_2 rfl (lv_at hl 0 rfl) ?_
  refine lv_iload_n hx hb d_La_reach_3 rfl (lv_at hl 1 rfl) ?_
  have hPc := hP.sub (ws' := [(a0, .inr (0, [.ref a1, .ref a2, .ref a3, .ref a4, .ref a5]))]) [0] rfl
  have hDc := hD.sub (ws' := [(a0, .inr (0, [.ref a1, .ref a2, .ref a3, .ref a4, .ref a5]))]) [0] (by decide) rfl
  have hFc := va_free (wc := [(a0, .inr (0, [.ref a1, .ref a2, .ref a3, .ref a4, .ref a5]))]) hD hS hA [0] rfl
  refine tx_callCatch1 (C := "NetUnfolder") (As := [.int k0]) (rest := [.int 0, .ref o0]) (cls := "java/lang/IllegalArgumentException") ⟨hx, hb, hml, hown, ht⟩ (t_NU_reach_0 l hfl dC dI cI cL cZ _ a0 a1 a2 a3 a4 a5 k0 h1) (cwV 1 ht (good_V wd_3_104 wd_3_105 wd_3_106 wd_1_1 wd_3_107) rfl rfl rfl (by decide +kernel) ⟨Nat.le_of_ble_eq_true rfl, Nat.le_of_ble_eq_true rfl⟩) ⟨fun a U g mk q => by obtain ⟨q0, q1, qP, qK, qD, qN, qT⟩ := q; exact ⟨q0, q1, qP, va_K.moved (u := U) (U := U.calling g mk a) (Vm.Alike.refl U.vm) qK, qD, NwA.same (u := U) rfl qN, ThA.same (u := U) rfl qT⟩, (va_recv (q0 := 0) (ci := 0) hK hP rfl rfl), fun U hU hW => ⟨rfl, by rw [hU], by rw [hU]; exact hPc, va_K.moved hW.alike hK, hDc.weaken (fun _ _ _ _ => trivial), NwA.warm hW hN, by rw [hU]; exact ThA.warm hW hT⟩⟩ rfl hl.1 (lv_room (Nat.le_of_ble_eq_true rfl)) d_La_reach_4 ⟨Nat.le_of_ble_eq_true rfl, Nat.le_of_ble_eq_true rfl⟩ htab (ht _ wd_3_4) (by decide) (by decide) (by decide) (fun _ _ _ _ h => h) (va_Nw.use rfl (hT.2.2.1 _ xc_IAE)) (fun x9 H1 hk1 => ?_)
  replace hP : va_P (dC, dI) clA [(a0, .inr (0, [.ref a1, .ref a2, .ref a3, .ref a4, .ref a5])), (o0, .inl (cL, 1, .inr (.inl (fun _ => 0))))] H1 := pu_keep2 hP hk1
  replace hS := pu_S hS hk1
  clear hPc hDc hFc hk1
  refine W.cs (cells' := 1) (slots' := 6) rfl rfl ?_
  refine lv_astore_n (lv' := [(3, .ref x9), (0, .ref a0), (1, .int k0), (2, .ref o0)]) hx hb d_La_reach_12 rfl hl (by decide) rfl (fun ls hln => ?_)
  replace hl : lv_has ls 4 [(3, .ref x9), (0, .ref a0), (1, .int k0), (2, .ref o0)] := hln
  clear hln
  refine lv_iconst (v := 1) hx hb d_La_reach_13 (by decide) ?_
  have hP9 := hP.sub (ws' := [(a0, .inr (0, [.ref a1, .ref a2, .ref a3, .ref a4, .ref a5])), (o0, .inl (cL, 1, .inr (.inl (fun _ => 0))))]) [0, 1] rfl
  have hD9 := hD.sub (ws' := [(a0, .inr (0, [.ref a1, .ref a2, .ref a3, .ref a4, .ref a5])), (o0, .inl (cL, 1, .inr (.inl (fun _ => 0))))]) [0, 1] (by decide) rfl
  exact W.iret (v := 1) hx hb hr (fun t ht9 hW => ⟨⟨1, (), rfl, rfl, by rw [ht9]; exact hP9, hD9⟩, hS.F ht9⟩) hS.2.2 d_La_reach_14

set_option maxHeartbeats 4000000 in
set_option maxRecDepth 100000 in
theorem w_reach_1 (l : Launch) (hfl : l.flags = flags0) (dC : Nat → ClassId) (dI : Nat → Nat → Nat) (cI cL cZ : ClassId) (sz : Nat) (a0 : Nat) (o0 : Nat) (a1 : Nat) (a2 : Nat) (a3 : Nat) (a4 : Nat) (a5 : Nat) (k0 : Int32) (h2 : 255 < k0) : Met l y_La_reach (Cond.codeWith y_La_reach method_5_code 4 (some .int) [(0, 9, 12, 13), (0, 9, 15, 15)] :: wsA) { frames := 7, cells := 1, slots := 6, locals := 117 } (va_Pc [.ref a0, .int k0, .ref o0] (fun U => U.heap.size = sz ∧ va_P (dC, dI) clA [(a0, .inr (0, [.ref a1, .ref a2, .ref a3, .ref a4, .ref a5])), (o0, .inl (cL, 1, .inr (.inl (fun _ => 0))))] U.heap ∧ va_K (dC, dI) clA [(cI, .int), (cL, .long), (cZ, .boolean)] U ∧ va_D (fun _ => True) [(a0, .inr (0, [.ref a1, .ref a2, .ref a3, .ref a4, .ref a5])), (o0, .inl (cL, 1, .inr (.inl (fun _ => 0))))] ∧ NwA U ∧ ThA (fun _ => False) U U.heap)) (va_Qi (fun r (_ : Unit) => r = 1) (fun _ t => va_P (dC, dI) clA [(a0, .inr (0, [.ref a1, .ref a2, .ref a3, .ref a4, .ref a5])), (o0, .inl (cL, 1, .inr (.inl (fun _ => 0))))] t.heap ∧ va_D (va_A [(a0, .inr (0, [.ref a1, .ref a2, .ref a3, .ref a4, .ref a5])), (o0, .inl (cL, 1, .inr (.inl (fun _ => 0))))] sz) [(a0, .inr (0, [.ref a1, .ref a2, .ref a3, .ref a4, .ref a5])), (o0, .inl (cL, 1, .inr (.inl (fun _ => 0))))]) (va_A [(a0, .inr (0, [.ref a1, .ref a2, .ref a3, .ref a4, .ref a5])), (o0, .inl (cL, 1, .inr (.inl (fun _ => 0))))] sz)) 1 6 (va_A [(a0, .inr (0, [.ref a1, .ref a2, .ref a3, .ref a4, .ref a5])), (o0, .inl (cL, 1, .inr (.inl (fun _ => 0))))] sz) := by
  refine va_MetW (cc := method_5_code) (maxL := 4) (ret := (some .int)) (hh := [(0, 9, 12, 13), (0, 9, 15, 15)]) (by decide) rfl ?_
  intro p e s m args below meth c s₁ B hml hv
  obtain ⟨rfl, hsz, hP, hK, hD0, hN, hT⟩ := hv
  have hx := B.exec
  have hb := B.bytes
  have hr := B.returns
  have ht : ∀ w ∈ wsA, w.before _ s = true := fun w h => atoms_spec (ws := (Cond.codeWith y_La_reach method_5_code 4 (some .int) [(0, 9, 12, 13), (0, 9, 15, 15)] :: wsA)) B.pre w (List.mem_cons_of_mem _ h)
  have hown : s.vm.findClass "NetUnfolderLaw" = some m.cls := findClass_of_methodNamed B.named
  have hlocks := B.notSynchronized
  have htab := hm_tab B (atoms_spec (ws := (Cond.codeWith y_La_reach method_5_code 4 (some .int) [(0, 9, 12, 13), (0, 9, 15, 15)] :: wsA)) B.pre _ List.mem_cons_self)
  subst hsz
  have hD := hD0.self (sz := s.heap.size)
  generalize hAe : va_A [(a0, .inr (0, [.ref a1, .ref a2, .ref a3, .ref a4, .ref a5])), (o0, .inl (cL, 1, .inr (.inl (fun _ => 0))))] s.heap.size = A at hD ⊢
  have hA : ∀ q : Nat, s.heap.size ≤ q → A q := fun q h => by rw [← hAe]; exact Or.inr h
  have hS : va_S A s.heap s.heap [] := va_S.rf
  have hl := lv_entry ([.ref a0, .int k0, .ref o0]) (n := 4) (Nat.le_of_ble_eq_true rfl)
  rw [lg_entry_eq]
  generalize (lg_sl ([.ref a0, .int k0, .ref o0]) ++ List.replicate (4 - (lg_sl ([.ref a0, .int k0, .ref o0])).length) Slot.unset).toArray = ls at hl ⊢
  replace hl : lv_has ls 4 [(0, .ref a0), (1, .int k0), (2, .ref o0)] := hl
  refine lv_aload_n hx hb d_La_reach_0 rfl (lv_at hl 2 rfl) ?_
  refine lv_iconst (v := 0) hx hb d_La_reach_1 (by decide) ?_
  refine lv_aload_n hx hb d_La_reach_2 rfl (lv_at hl 0 rfl) ?_
  refine lv_iload_n hx hb d_La_reach_3 rfl (lv_at hl 1 rfl) ?_
  have hPc := hP.sub (ws' := [(a0, .inr (0, [.ref a1, .ref a2, .ref a3, .ref a4, .ref a5]))]) [0] rfl
  have hDc := hD.sub (ws' := [(a0, .inr (0, [.ref a1, .ref a2, .ref a3, .ref a4, .ref a5]))]) [0] (by decide) rfl
  have hFc := va_free (wc := [(a0, .inr (0, [.ref a1, .ref a2, .ref a3, .ref a4, .ref a5]))]) hD hS hA [0] rfl
  refine tx_callCatch1 (C := "NetUnfolder") (As := [.int k0]) (rest := [.int 0, .ref o0]) (cls := "java/lang/IllegalArgumentException") ⟨hx, hb, hml, hown, ht⟩ (t_NU_reach_1 l hfl dC dI cI cL cZ _ a0 a1 a2 a3 a4 a5 k0 h2) (cwV 1 ht (good_V wd_3_104 wd_3_105 wd_3_106 wd_1_1 wd_3_107) rfl rfl rfl (by decide +kernel) ⟨Nat.le_of_ble_eq_true rfl, Nat.le_of_ble_eq_true rfl⟩) ⟨fun a U g mk q => by obtain ⟨q0, q1, qP, qK, qD, qN, qT⟩ := q; exact ⟨q0, q1, qP, va_K.moved (u := U) (U := U.calling g mk a) (Vm.Alike.refl U.vm) qK, qD, NwA.same (u := U) rfl qN, ThA.same (u := U) rfl qT⟩, (va_recv (q0 := 0) (ci := 0) hK hP rfl rfl), fun U hU hW => ⟨rfl, by rw [hU], by rw [hU]; exact hPc, va_K.moved hW.alike hK, hDc.weaken (fun _ _ _ _ => trivial), NwA.warm hW hN, by rw [hU]; exact ThA.warm hW hT⟩⟩ rfl hl.1 (lv_room (Nat.le_of_ble_eq_true rfl)) d_La_reach_4 ⟨Nat.le_of_ble_eq_true rfl, Nat.le_of_ble_eq_true rfl⟩ htab (ht _ wd_3_4) (by decide) (by decide) (by decide) (fun _ _ _ _ h => h) (va_Nw.use rfl (hT.2.2.1 _ xc_IAE)) (fun x9 H1 hk1 => ?_)
  replace hP : va_P (dC, dI) clA [(a0, .inr (0, [.ref a1, .ref a2, .ref a3, .ref a4, .ref a5])), (o0, .inl (cL, 1, .inr (.inl (fun _ => 0))))] H1 := pu_keep2 hP hk1
  replace hS := pu_S hS hk1
  clear hPc hDc hFc hk1
  refine W.cs (cells' := 1) (slots' := 6) rfl rfl ?_
  refine lv_astore_n (lv' := [(3, .ref x9), (0, .ref a0), (1, .int k0), (2, .ref o0)]) hx hb d_La_reach_12 rfl hl (by decide) rfl (fun ls hln => ?_)
  replace hl : lv_has ls 4 [(3, .ref x9), (0, .ref a0), (1, .int k0), (2, .ref o0)] := hln
  clear hln
  refine lv_iconst (v := 1) hx hb d_La_reach_13 (by decide) ?_
  have hP9 := hP.sub (ws' := [(a0, .inr (0, [.ref a1, .ref a2, .ref a3, .ref a4, .ref a5])), (o0, .inl (cL, 1, .inr (.inl (fun _ => 0))))]) [0, 1] rfl
  have hD9 := hD.sub (ws' := [(a0, .inr (0, [.ref a1, .ref a2, .ref a3, .ref a4, .ref a5])), (o0, .inl (cL, 1, .inr (.inl (fun _ => 0))))]) [0, 1] (by decide) rfl
  exact W.iret (v := 1) hx hb hr (fun t ht9 hW => ⟨⟨1, (), rfl, rfl, by rw [ht9]; exact hP9, hD9⟩, hS.F ht9⟩) hS.2.2 d_La_reach_14

set_option maxHeartbeats 4000000 in
set_option maxRecDepth 100000 in
theorem w_reach_2 (l : Launch) (hfl : l.flags = flags0) (dC : Nat → ClassId) (dI : Nat → Nat → Nat) (cI cL cZ : ClassId) (sz : Nat) (a0 : Nat) (a2 : Nat) (o0 : Nat) (a1 : Nat) (a3 : Nat) (a4 : Nat) (a5 : Nat) (a8 : Nat) (a9 : Nat) (a10 : Nat) (a11 : Nat) (a12 : Nat) (a13 : Nat) (a14 : Nat) (a15 : Nat) (a16 : Nat) (a17 : Nat) (k0 : Int32) (h1 : ¬ k0 < 0) (h2 : ¬ 255 < k0) : Met l y_La_reach (Cond.codeWith y_La_reach method_5_code 4 (some .int) [(0, 9, 12, 13), (0, 9, 15, 15)] :: wsA) { frames := 7, cells := 1, slots := 6, locals := 117 } (va_Pc [.ref a0, .int k0, .ref o0] (fun U => U.heap.size = sz ∧ va_P (dC, dI) clA [(a0, .inr (0, [.ref a1, .ref a2, .ref a3, .ref a4, .ref a5])), (a2, .inr (2, [.int 0, .ref a8, .ref a9, .ref a10, .ref a11, .ref a12, .int 0, .ref a13, .ref a14, .ref a15, .ref a16, .ref a17, .int 0, .int 0])), (o0, .inl (cL, 1, .inr (.inl (fun _ => 0))))] U.heap ∧ va_K (dC, dI) clA [(cI, .int), (cL, .long), (cZ, .boolean)] U ∧ va_D (fun _ => True) [(a0, .inr (0, [.ref a1, .ref a2, .ref a3, .ref a4, .ref a5])), (a2, .inr (2, [.int 0, .ref a8, .ref a9, .ref a10, .ref a11, .ref a12, .int 0, .ref a13, .ref a14, .ref a15, .ref a16, .ref a17, .int 0, .int 0])), (o0, .inl (cL, 1, .inr (.inl (fun _ => 0))))] ∧ NwA U ∧ ThA (fun _ => False) U U.heap)) (va_Qi (fun r (_ : Unit) => r = 2) (fun _ t => va_P (dC, dI) clA [(a0, .inr (0, [.ref a1, .ref a2, .ref a3, .ref a4, .ref a5])), (a2, .inr (2, [.int 0, .ref a8, .ref a9, .ref a10, .ref a11, .ref a12, .int 0, .ref a13, .ref a14, .ref a15, .ref a16, .ref a17, .int 0, .int 0])), (o0, .inl (cL, 1, .inr (.inl (fun _ => 0))))] t.heap ∧ va_D (va_A [(a0, .inr (0, [.ref a1, .ref a2, .ref a3, .ref a4, .ref a5])), (a2, .inr (2, [.int 0, .ref a8, .ref a9, .ref a10, .ref a11, .ref a12, .int 0, .ref a13, .ref a14, .ref a15, .ref a16, .ref a17, .int 0, .int 0])), (o0, .inl (cL, 1, .inr (.inl (fun _ => 0))))] sz) [(a0, .inr (0, [.ref a1, .ref a2, .ref a3, .ref a4, .ref a5])), (a2, .inr (2, [.int 0, .ref a8, .ref a9, .ref a10, .ref a11, .ref a12, .int 0, .ref a13, .ref a14, .ref a15, .ref a16, .ref a17, .int 0, .int 0])), (o0, .inl (cL, 1, .inr (.inl (fun _ => 0))))]) (va_A [(a0, .inr (0, [.ref a1, .ref a2, .ref a3, .ref a4, .ref a5])), (a2, .inr (2, [.int 0, .ref a8, .ref a9, .ref a10, .ref a11, .ref a12, .int 0, .ref a13, .ref a14, .ref a15, .ref a16, .ref a17, .int 0, .int 0])), (o0, .inl (cL, 1, .inr (.inl (fun _ => 0))))] sz)) 1 6 (va_A [(a0, .inr (0, [.ref a1, .ref a2, .ref a3, .ref a4, .ref a5])), (a2, .inr (2, [.int 0, .ref a8, .ref a9, .ref a10, .ref a11, .ref a12, .int 0, .ref a13, .ref a14, .ref a15, .ref a16, .ref a17, .int 0, .int 0])), (o0, .inl (cL, 1, .inr (.inl (fun _ => 0))))] sz) := by
  refine va_MetW (cc := method_5_code) (maxL := 4) (ret := (some .int)) (hh := [(0, 9, 12, 13), (0, 9, 15, 15)]) (by decide) rfl ?_
  intro p e s m args below meth c s₁ B hml hv
  obtain ⟨rfl, hsz, hP, hK, hD0, hN, hT⟩ := hv
  have hx := B.exec
  have hb := B.bytes
  have hr := B.returns
  have ht : ∀ w ∈ wsA, w.before _ s = true := fun w h => atoms_spec (ws := (Cond.codeWith y_La_reach method_5_code 4 (some .int) [(0, 9, 12, 13), (0, 9, 15, 15)] :: wsA)) B.pre w (List.mem_cons_of_mem _ h)
  have hown : s.vm.findClass "NetUnfolderLaw" = some m.cls := findClass_of_methodNamed B.named
  have hlocks := B.notSynchronized
  have htab := hm_tab B (atoms_spec (ws := (Cond.codeWith y_La_reach method_5_code 4 (some .int) [(0, 9, 12, 13), (0, 9, 15, 15)] :: wsA)) B.pre _ List.mem_cons_self)
  subst hsz
  have hD := hD0.self (sz := s.heap.size)
  generalize hAe : va_A [(a0, .inr (0, [.ref a1, .ref a2, .ref a3, .ref a4, .ref a5])), (a2, .inr (2, [.int 0, .ref a8, .ref a9, .ref a10, .ref a11, .ref a12, .int 0, .ref a13, .ref a14, .ref a15, .ref a16, .ref a17, .int 0, .int 0])), (o0, .inl (cL, 1, .inr (.inl (fun _ => 0))))] s.heap.size = A at hD ⊢
  have hA : ∀ q : Nat, s.heap.size ≤ q → A q := fun q h => by rw [← hAe]; exact Or.inr h
  have hS : va_S A s.heap s.heap [] := va_S.rf
  have hl := lv_entry ([.ref a0, .int k0, .ref o0]) (n := 4) (Nat.le_of_ble_eq_true rfl)
  rw [lg_entry_eq]
  generalize (lg_sl ([.ref a0, .int k0, .ref o0]) ++ List.replicate (4 - (lg_sl ([.ref a0, .int k0, .ref o0])).length) Slot.unset).toArray = ls at hl ⊢
  replace hl : lv_has ls 4 [(0, .ref a0), (1, .int k0), (2, .ref o0)] := hl
  refine lv_aload_n hx hb d_La_reach_0 rfl (lv_at hl 2 rfl) ?_
  refine lv_iconst (v := 0) hx hb d_La_reach_1 (by decide) ?_
  refine lv_aload_n hx hb d_La_reach_2 rfl (lv_at hl 0 rfl) ?_
  refine lv_iload_n hx hb d_La_reach_3 rfl (lv_at hl 1 rfl) ?_
  have hPc := hP.sub (ws' := [(a0, .inr (0, [.ref a1, .ref a2, .ref a3, .ref a4, .ref a5])), (a2, .inr (2, [.int 0, .ref a8, .ref a9, .ref a10, .ref a11, .ref a12, .int 0, .ref a13, .ref a14, .ref a15, .ref a16, .ref a17, .int 0, .int 0]))]) [0, 1] rfl
  have hDc := hD.sub (ws' := [(a0, .inr (0, [.ref a1, .ref a2, .ref a3, .ref a4, .ref a5])), (a2, .inr (2, [.int 0, .ref a8, .ref a9, .ref a10, .ref a11, .ref a12, .int 0, .ref a13, .ref a14, .ref a15, .ref a16, .ref a17, .int 0, .int 0]))]) [0, 1] (by decide) rfl
  have hFc := va_free (wc := [(a0, .inr (0, [.ref a1, .ref a2, .ref a3, .ref a4, .ref a5])), (a2, .inr (2, [.int 0, .ref a8, .ref a9, .ref a10, .ref a11, .ref a12, .int 0, .ref a13, .ref a14, .ref a15, .ref a16, .ref a17, .int 0, .int 0]))]) hD hS hA [0, 1] rfl
  refine tx_callCatch2 (C := "NetUnfolder") (As := [.int k0]) (rest := [.int 0, .ref o0]) (cls := "java/lang/IllegalStateException") ⟨hx, hb, hml, hown, ht⟩ (t_NU_reach_2 l hfl dC dI cI cL cZ _ a0 a2 a1 a3 a4 a5 a8 a9 a10 a11 a12 a13 a14 a15 a16 a17 k0 h1 h2) (cwV 1 ht (good_V wd_3_104 wd_3_105 wd_3_106 wd_1_1 wd_3_107) rfl rfl rfl (by decide +kernel) ⟨Nat.le_of_ble_eq_true rfl, Nat.le_of_ble_eq_true rfl⟩) ⟨fun a U g mk q => by obtain ⟨q0, q1, qP, qK, qD, qN, qT⟩ := q; exact ⟨q0, q1, qP, va_K.moved (u := U) (U := U.calling g mk a) (Vm.Alike.refl U.vm) qK, qD, NwA.same (u := U) rfl qN, ThA.same (u := U) rfl qT⟩, (va_recv (q0 := 0) (ci := 0) hK hP rfl rfl), fun U hU hW => ⟨rfl, by rw [hU], by rw [hU]; exact hPc, va_K.moved hW.alike hK, hDc.weaken (fun _ _ _ _ => trivial), NwA.warm hW hN, by rw [hU]; exact ThA.warm hW hT⟩⟩ rfl hl.1 (lv_room (Nat.le_of_ble_eq_true rfl)) d_La_reach_4 ⟨Nat.le_of_ble_eq_true rfl, Nat.le_of_ble_eq_true rfl⟩ htab (ht _ wd_3_4) (by decide) (ht _ wd_3_5) (by decide) (by decide) (by decide) (by decide) (by decide) (fun _ _ _ _ h => h) hT.2.2.2 (va_Nw.use rfl (hT.2.2.1 _ xc_ISE)) (fun x9 H1 hk1 => ?_)
  replace hP : va_P (dC, dI) clA [(a0, .inr (0, [.ref a1, .ref a2, .ref a3, .ref a4, .ref a5])), (a2, .inr (2, [.int 0, .ref a8, .ref a9, .ref a10, .ref a11, .ref a12, .int 0, .ref a13, .ref a14, .ref a15, .ref a16, .ref a17, .int 0, .int 0])), (o0, .inl (cL, 1, .inr (.inl (fun _ => 0))))] H1 := pu_keep2 hP hk1
  replace hS := pu_S hS hk1
  clear hPc hDc hFc hk1
  refine W.cs (cells' := 1) (slots' := 6) rfl rfl ?_
  refine lv_astore_n (lv' := [(3, .ref x9), (0, .ref a0), (1, .int k0), (2, .ref o0)]) hx hb d_La_reach_15 rfl hl (by decide) rfl (fun ls hln => ?_)
  replace hl : lv_has ls 4 [(3, .ref x9), (0, .ref a0), (1, .int k0), (2, .ref o0)] := hln
  clear hln
  refine lv_iconst (v := 2) hx hb d_La_reach_16 (by decide) ?_
  have hP9 := hP.sub (ws' := [(a0, .inr (0, [.ref a1, .ref a2, .ref a3, .ref a4, .ref a5])), (a2, .inr (2, [.int 0, .ref a8, .ref a9, .ref a10, .ref a11, .ref a12, .int 0, .ref a13, .ref a14, .ref a15, .ref a16, .ref a17, .int 0, .int 0])), (o0, .inl (cL, 1, .inr (.inl (fun _ => 0))))]) [0, 1, 2] rfl
  have hD9 := hD.sub (ws' := [(a0, .inr (0, [.ref a1, .ref a2, .ref a3, .ref a4, .ref a5])), (a2, .inr (2, [.int 0, .ref a8, .ref a9, .ref a10, .ref a11, .ref a12, .int 0, .ref a13, .ref a14, .ref a15, .ref a16, .ref a17, .int 0, .int 0])), (o0, .inl (cL, 1, .inr (.inl (fun _ => 0))))]) [0, 1, 2] (by decide) rfl
  exact W.iret (v := 2) hx hb hr (fun t ht9 hW => ⟨⟨2, (), rfl, rfl, by rw [ht9]; exact hP9, hD9⟩, hS.F ht9⟩) hS.2.2 d_La_reach_17

set_option maxHeartbeats 4000000 in
set_option maxRecDepth 100000 in
theorem w_deadlock (l : Launch) (hfl : l.flags = flags0) (dC : Nat → ClassId) (dI : Nat → Nat → Nat) (cI cL cZ : ClassId) (sz : Nat) (a0 : Nat) (a2 : Nat) (o0 : Nat) (a1 : Nat) (a3 : Nat) (a4 : Nat) (a5 : Nat) (a8 : Nat) (a9 : Nat) (a10 : Nat) (a11 : Nat) (a12 : Nat) (a13 : Nat) (a14 : Nat) (a15 : Nat) (a16 : Nat) (a17 : Nat) : Met l y_La_deadlock (Cond.codeWith y_La_deadlock method_6_code 3 (some .int) [(0, 8, 11, 15)] :: wsA) { frames := 7, cells := 1, slots := 6, locals := 116 } (va_Pc [.ref a0, .ref o0] (fun U => U.heap.size = sz ∧ va_P (dC, dI) clA [(a0, .inr (0, [.ref a1, .ref a2, .ref a3, .ref a4, .ref a5])), (a2, .inr (2, [.int 0, .ref a8, .ref a9, .ref a10, .ref a11, .ref a12, .int 0, .ref a13, .ref a14, .ref a15, .ref a16, .ref a17, .int 0, .int 0])), (o0, .inl (cL, 1, .inr (.inl (fun _ => 0))))] U.heap ∧ va_K (dC, dI) clA [(cI, .int), (cL, .long), (cZ, .boolean)] U ∧ va_D (fun _ => True) [(a0, .inr (0, [.ref a1, .ref a2, .ref a3, .ref a4, .ref a5])), (a2, .inr (2, [.int 0, .ref a8, .ref a9, .ref a10, .ref a11, .ref a12, .int 0, .ref a13, .ref a14, .ref a15, .ref a16, .ref a17, .int 0, .int 0])), (o0, .inl (cL, 1, .inr (.inl (fun _ => 0))))] ∧ NwA U ∧ ThA (fun _ => False) U U.heap)) (va_Qi (fun r (_ : Unit) => r = 1) (fun _ t => va_P (dC, dI) clA [(a0, .inr (0, [.ref a1, .ref a2, .ref a3, .ref a4, .ref a5])), (a2, .inr (2, [.int 0, .ref a8, .ref a9, .ref a10, .ref a11, .ref a12, .int 0, .ref a13, .ref a14, .ref a15, .ref a16, .ref a17, .int 0, .int 0])), (o0, .inl (cL, 1, .inr (.inl (fun _ => 0))))] t.heap ∧ va_D (va_A [(a0, .inr (0, [.ref a1, .ref a2, .ref a3, .ref a4, .ref a5])), (a2, .inr (2, [.int 0, .ref a8, .ref a9, .ref a10, .ref a11, .ref a12, .int 0, .ref a13, .ref a14, .ref a15, .ref a16, .ref a17, .int 0, .int 0])), (o0, .inl (cL, 1, .inr (.inl (fun _ => 0))))] sz) [(a0, .inr (0, [.ref a1, .ref a2, .ref a3, .ref a4, .ref a5])), (a2, .inr (2, [.int 0, .ref a8, .ref a9, .ref a10, .ref a11, .ref a12, .int 0, .ref a13, .ref a14, .ref a15, .ref a16, .ref a17, .int 0, .int 0])), (o0, .inl (cL, 1, .inr (.inl (fun _ => 0))))]) (va_A [(a0, .inr (0, [.ref a1, .ref a2, .ref a3, .ref a4, .ref a5])), (a2, .inr (2, [.int 0, .ref a8, .ref a9, .ref a10, .ref a11, .ref a12, .int 0, .ref a13, .ref a14, .ref a15, .ref a16, .ref a17, .int 0, .int 0])), (o0, .inl (cL, 1, .inr (.inl (fun _ => 0))))] sz)) 1 6 (va_A [(a0, .inr (0, [.ref a1, .ref a2, .ref a3, .ref a4, .ref a5])), (a2, .inr (2, [.int 0, .ref a8, .ref a9, .ref a10, .ref a11, .ref a12, .int 0, .ref a13, .ref a14, .ref a15, .ref a16, .ref a17, .int 0, .int 0])), (o0, .inl (cL, 1, .inr (.inl (fun _ => 0))))] sz) := by
  refine va_MetW (cc := method_6_code) (maxL := 3) (ret := (some .int)) (hh := [(0, 8, 11, 15)]) (by decide) rfl ?_
  intro p e s m args below meth c s₁ B hml hv
  obtain ⟨rfl, hsz, hP, hK, hD0, hN, hT⟩ := hv
  have hx := B.exec
  have hb := B.bytes
  have hr := B.returns
  have ht : ∀ w ∈ wsA, w.before _ s = true := fun w h => atoms_spec (ws := (Cond.codeWith y_La_deadlock method_6_code 3 (some .int) [(0, 8, 11, 15)] :: wsA)) B.pre w (List.mem_cons_of_mem _ h)
  have hown : s.vm.findClass "NetUnfolderLaw" = some m.cls := findClass_of_methodNamed B.named
  have hlocks := B.notSynchronized
  have htab := hm_tab B (atoms_spec (ws := (Cond.codeWith y_La_deadlock method_6_code 3 (some .int) [(0, 8, 11, 15)] :: wsA)) B.pre _ List.mem_cons_self)
  subst hsz
  have hD := hD0.self (sz := s.heap.size)
  generalize hAe : va_A [(a0, .inr (0, [.ref a1, .ref a2, .ref a3, .ref a4, .ref a5])), (a2, .inr (2, [.int 0, .ref a8, .ref a9, .ref a10, .ref a11, .ref a12, .int 0, .ref a13, .ref a14, .ref a15, .ref a16, .ref a17, .int 0, .int 0])), (o0, .inl (cL, 1, .inr (.inl (fun _ => 0))))] s.heap.size = A at hD ⊢
  have hA : ∀ q : Nat, s.heap.size ≤ q → A q := fun q h => by rw [← hAe]; exact Or.inr h
  have hS : va_S A s.heap s.heap [] := va_S.rf
  have hl := lv_entry ([.ref a0, .ref o0]) (n := 3) (Nat.le_of_ble_eq_true rfl)
  rw [lg_entry_eq]
  generalize (lg_sl ([.ref a0, .ref o0]) ++ List.replicate (3 - (lg_sl ([.ref a0, .ref o0])).length) Slot.unset).toArray = ls at hl ⊢
  replace hl : lv_has ls 3 [(0, .ref a0), (1, .ref o0)] := hl
  refine lv_aload_n hx hb d_La_deadlock_0 rfl (lv_at hl 1 rfl) ?_
  refine lv_iconst (v := 0) hx hb d_La_deadlock_1 (by decide) ?_
  refine lv_aload_n hx hb d_La_deadlock_2 rfl (lv_at hl 0 rfl) ?_
  have hPc := hP.sub (ws' := [(a0, .inr (0, [.ref a1, .ref a2, .ref a3, .ref a4, .ref a5])), (a2, .inr (2, [.int 0, .ref a8, .ref a9, .ref a10, .ref a11, .ref a12, .int 0, .ref a13, .ref a14, .ref a15, .ref a16, .ref a17, .int 0, .int 0]))]) [0, 1] rfl
  have hDc := hD.sub (ws' := [(a0, .inr (0, [.ref a1, .ref a2, .ref a3, .ref a4, .ref a5])), (a2, .inr (2, [.int 0, .ref a8, .ref a9, .ref a10, .ref a11, .ref a12, .int 0, .ref a13, .ref a14, .ref a15, .ref a16, .ref a17, .int 0, .int 0]))]) [0, 1] (by decide) rfl
  have hFc := va_free (wc := [(a0, .inr (0, [.ref a1, .ref a2, .ref a3, .ref a4, .ref a5])), (a2, .inr (2, [.int 0, .ref a8, .ref a9, .ref a10, .ref a11, .ref a12, .int 0, .ref a13, .ref a14, .ref a15, .ref a16, .ref a17, .int 0, .int 0]))]) hD hS hA [0, 1] rfl
  refine tx_callCatch1 (C := "NetUnfolder") (As := []) (rest := [.int 0, .ref o0]) (cls := "java/lang/IllegalStateException") ⟨hx, hb, hml, hown, ht⟩ (t_NU_deadlock l hfl dC dI cI cL cZ _ a0 a2 a1 a3 a4 a5 a8 a9 a10 a11 a12 a13 a14 a15 a16 a17 ) (cwV 0 ht (good_V wd_3_214 wd_3_215 wd_3_216 wd_1_1 wd_3_217) rfl rfl rfl (by decide +kernel) ⟨Nat.le_of_ble_eq_true rfl, Nat.le_of_ble_eq_true rfl⟩) ⟨fun a U g mk q => by obtain ⟨q0, q1, qP, qK, qD, qN, qT⟩ := q; exact ⟨q0, q1, qP, va_K.moved (u := U) (U := U.calling g mk a) (Vm.Alike.refl U.vm) qK, qD, NwA.same (u := U) rfl qN, ThA.same (u := U) rfl qT⟩, (va_recv (q0 := 0) (ci := 0) hK hP rfl rfl), fun U hU hW => ⟨rfl, by rw [hU], by rw [hU]; exact hPc, va_K.moved hW.alike hK, hDc.weaken (fun _ _ _ _ => trivial), NwA.warm hW hN, by rw [hU]; exact ThA.warm hW hT⟩⟩ rfl hl.1 (lv_room (Nat.le_of_ble_eq_true rfl)) d_La_deadlock_3 ⟨Nat.le_of_ble_eq_true rfl, Nat.le_of_ble_eq_true rfl⟩ htab (ht _ wd_3_5) (by decide) (by decide) (by decide) (fun _ _ _ _ h => h) (va_Nw.use rfl (hT.2.2.1 _ xc_ISE)) (fun x9 H1 hk1 => ?_)
  replace hP : va_P (dC, dI) clA [(a0, .inr (0, [.ref a1, .ref a2, .ref a3, .ref a4, .ref a5])), (a2, .inr (2, [.int 0, .ref a8, .ref a9, .ref a10, .ref a11, .ref a12, .int 0, .ref a13, .ref a14, .ref a15, .ref a16, .ref a17, .int 0, .int 0])), (o0, .inl (cL, 1, .inr (.inl (fun _ => 0))))] H1 := pu_keep2 hP hk1
  replace hS := pu_S hS hk1
  clear hPc hDc hFc hk1
  refine W.cs (cells' := 1) (slots' := 6) rfl rfl ?_
  refine lv_astore_n (lv' := [(2, .ref x9), (0, .ref a0), (1, .ref o0)]) hx hb d_La_deadlock_11 rfl hl (by decide) rfl (fun ls hln => ?_)
  replace hl : lv_has ls 3 [(2, .ref x9), (0, .ref a0), (1, .ref o0)] := hln
  clear hln
  refine lv_iconst (v := 1) hx hb d_La_deadlock_12 (by decide) ?_
  have hP9 := hP.sub (ws' := [(a0, .inr (0, [.ref a1, .ref a2, .ref a3, .ref a4, .ref a5])), (a2, .inr (2, [.int 0, .ref a8, .ref a9, .ref a10, .ref a11, .ref a12, .int 0, .ref a13, .ref a14, .ref a15, .ref a16, .ref a17, .int 0, .int 0])), (o0, .inl (cL, 1, .inr (.inl (fun _ => 0))))]) [0, 1, 2] rfl
  have hD9 := hD.sub (ws' := [(a0, .inr (0, [.ref a1, .ref a2, .ref a3, .ref a4, .ref a5])), (a2, .inr (2, [.int 0, .ref a8, .ref a9, .ref a10, .ref a11, .ref a12, .int 0, .ref a13, .ref a14, .ref a15, .ref a16, .ref a17, .int 0, .int 0])), (o0, .inl (cL, 1, .inr (.inl (fun _ => 0))))]) [0, 1, 2] (by decide) rfl
  exact W.iret (v := 1) hx hb hr (fun t ht9 hW => ⟨⟨1, (), rfl, rfl, by rw [ht9]; exact hP9, hD9⟩, hS.F ht9⟩) hS.2.2 d_La_deadlock_13

set_option maxHeartbeats 4000000 in
set_option maxRecDepth 100000 in
theorem w_play_0 (l : Launch) (hfl : l.flags = flags0) (dC : Nat → ClassId) (dI : Nat → Nat → Nat) (cI cL cZ : ClassId) (sz : Nat) (a0 : Nat) (a3 : Nat) (o0 : Nat) (a1 : Nat) (a2 : Nat) (a4 : Nat) (a5 : Nat) (a18 : Nat) (k0 : Int32) (h1 : k0 < 0) : Met l y_La_play (Cond.codeWith y_La_play method_7_code 4 (some .int) [(0, 9, 12, 13), (0, 9, 15, 15)] :: wsA) { frames := 7, cells := 1, slots := 6, locals := 121 } (va_Pc [.ref a0, .int k0, .ref o0] (fun U => U.heap.size = sz ∧ va_P (dC, dI) clA [(a0, .inr (0, [.ref a1, .ref a2, .ref a3, .ref a4, .ref a5])), (a3, .inr (3, [.ref a18, .int (-1)])), (o0, .inl (cL, 1, .inr (.inl (fun _ => 0))))] U.heap ∧ va_K (dC, dI) clA [(cI, .int), (cL, .long), (cZ, .boolean)] U ∧ va_D (fun _ => True) [(a0, .inr (0, [.ref a1, .ref a2, .ref a3, .ref a4, .ref a5])), (a3, .inr (3, [.ref a18, .int (-1)])), (o0, .inl (cL, 1, .inr (.inl (fun _ => 0))))] ∧ NwA U ∧ ThA (fun _ => False) U U.heap)) (va_Qi (fun r (_ : Unit) => r = 1) (fun _ t => va_P (dC, dI) clA [(a0, .inr (0, [.ref a1, .ref a2, .ref a3, .ref a4, .ref a5])), (a3, .inr (3, [.ref a18, .int (-1)])), (o0, .inl (cL, 1, .inr (.inl (fun _ => 0))))] t.heap ∧ va_D (va_A [(a0, .inr (0, [.ref a1, .ref a2, .ref a3, .ref a4, .ref a5])), (a3, .inr (3, [.ref a18, .int (-1)])), (o0, .inl (cL, 1, .inr (.inl (fun _ => 0))))] sz) [(a0, .inr (0, [.ref a1, .ref a2, .ref a3, .ref a4, .ref a5])), (a3, .inr (3, [.ref a18, .int (-1)])), (o0, .inl (cL, 1, .inr (.inl (fun _ => 0))))]) (va_A [(a0, .inr (0, [.ref a1, .ref a2, .ref a3, .ref a4, .ref a5])), (a3, .inr (3, [.ref a18, .int (-1)])), (o0, .inl (cL, 1, .inr (.inl (fun _ => 0))))] sz)) 1 6 (va_A [(a0, .inr (0, [.ref a1, .ref a2, .ref a3, .ref a4, .ref a5])), (a3, .inr (3, [.ref a18, .int (-1)])), (o0, .inl (cL, 1, .inr (.inl (fun _ => 0))))] sz) := by
  refine va_MetW (cc := method_7_code) (maxL := 4) (ret := (some .int)) (hh := [(0, 9, 12, 13), (0, 9, 15, 15)]) (by decide) rfl ?_
  intro p e s m args below meth c s₁ B hml hv
  obtain ⟨rfl, hsz, hP, hK, hD0, hN, hT⟩ := hv
  have hx := B.exec
  have hb := B.bytes
  have hr := B.returns
  have ht : ∀ w ∈ wsA, w.before _ s = true := fun w h => atoms_spec (ws := (Cond.codeWith y_La_play method_7_code 4 (some .int) [(0, 9, 12, 13), (0, 9, 15, 15)] :: wsA)) B.pre w (List.mem_cons_of_mem _ h)
  have hown : s.vm.findClass "NetUnfolderLaw" = some m.cls := findClass_of_methodNamed B.named
  have hlocks := B.notSynchronized
  have htab := hm_tab B (atoms_spec (ws := (Cond.codeWith y_La_play method_7_code 4 (some .int) [(0, 9, 12, 13), (0, 9, 15, 15)] :: wsA)) B.pre _ List.mem_cons_self)
  subst hsz
  have hD := hD0.self (sz := s.heap.size)
  generalize hAe : va_A [(a0, .inr (0, [.ref a1, .ref a2, .ref a3, .ref a4, .ref a5])), (a3, .inr (3, [.ref a18, .int (-1)])), (o0, .inl (cL, 1, .inr (.inl (fun _ => 0))))] s.heap.size = A at hD ⊢
  have hA : ∀ q : Nat, s.heap.size ≤ q → A q := fun q h => by rw [← hAe]; exact Or.inr h
  have hS : va_S A s.heap s.heap [] := va_S.rf
  have hl := lv_entry ([.ref a0, .int k0, .ref o0]) (n := 4) (Nat.le_of_ble_eq_true rfl)
  rw [lg_entry_eq]
  generalize (lg_sl ([.ref a0, .int k0, .ref o0]) ++ List.replicate (4 - (lg_sl ([.ref a0, .int k0, .ref o0])).length) Slot.unset).toArray = ls at hl ⊢
  replace hl : lv_has ls 4 [(0, .ref a0), (1, .int k0), (2, .ref o0)] := hl
  refine lv_aload_n hx hb d_La_play_0 rfl (lv_at hl 2 rfl) ?_
  refine lv_iconst (v := 0) hx hb d_La_play_1 (by decide) ?_
  refine lv_aload_n hx hb d_La_play_2 rfl (lv_at hl 0 rfl) ?_
  refine lv_iload_n hx hb d_La_play_3 rfl (lv_at hl 1 rfl) ?_
  have hPc := hP.sub (ws' := [(a0, .inr (0, [.ref a1, .ref a2, .ref a3, .ref a4, .ref a5])), (a3, .inr (3, [.ref a18, .int (-1)]))]) [0, 1] rfl
  have hDc := hD.sub (ws' := [(a0, .inr (0, [.ref a1, .ref a2, .ref a3, .ref a4, .ref a5])), (a3, .inr (3, [.ref a18, .int (-1)]))]) [0, 1] (by decide) rfl
  have hFc := va_free (wc := [(a0, .inr (0, [.ref a1, .ref a2, .ref a3, .ref a4, .ref a5])), (a3, .inr (3, [.ref a18, .int (-1)]))]) hD hS hA [0, 1] rfl
  refine tx_callCatch1 (C := "NetUnfolder") (As := [.int k0]) (rest := [.int 0, .ref o0]) (cls := "java/lang/IllegalArgumentException") ⟨hx, hb, hml, hown, ht⟩ (t_NU_play_0 l hfl dC dI cI cL cZ _ a0 a3 a1 a2 a4 a5 a18 k0 h1) (cwV 1 ht (good_V wd_3_225 wd_3_226 wd_3_227 wd_1_1 wd_3_228) rfl rfl rfl (by decide +kernel) ⟨Nat.le_of_ble_eq_true rfl, Nat.le_of_ble_eq_true rfl⟩) ⟨fun a U g mk q => by obtain ⟨q0, q1, qP, qK, qD, qN, qT⟩ := q; exact ⟨q0, q1, qP, va_K.moved (u := U) (U := U.calling g mk a) (Vm.Alike.refl U.vm) qK, qD, NwA.same (u := U) rfl qN, ThA.same (u := U) rfl qT⟩, (va_recv (q0 := 0) (ci := 0) hK hP rfl rfl), fun U hU hW => ⟨rfl, by rw [hU], by rw [hU]; exact hPc, va_K.moved hW.alike hK, hDc.weaken (fun _ _ _ _ => trivial), NwA.warm hW hN, by rw [hU]; exact ThA.warm hW hT⟩⟩ rfl hl.1 (lv_room (Nat.le_of_ble_eq_true rfl)) d_La_play_4 ⟨Nat.le_of_ble_eq_true rfl, Nat.le_of_ble_eq_true rfl⟩ htab (ht _ wd_3_4) (by decide) (by decide) (by decide) (fun _ _ _ _ h => h) (va_Nw.use rfl (hT.2.2.1 _ xc_IAE)) (fun x9 H1 hk1 => ?_)
  replace hP : va_P (dC, dI) clA [(a0, .inr (0, [.ref a1, .ref a2, .ref a3, .ref a4, .ref a5])), (a3, .inr (3, [.ref a18, .int (-1)])), (o0, .inl (cL, 1, .inr (.inl (fun _ => 0))))] H1 := pu_keep2 hP hk1
  replace hS := pu_S hS hk1
  clear hPc hDc hFc hk1
  refine W.cs (cells' := 1) (slots' := 6) rfl rfl ?_
  refine lv_astore_n (lv' := [(3, .ref x9), (0, .ref a0), (1, .int k0), (2, .ref o0)]) hx hb d_La_play_12 rfl hl (by decide) rfl (fun ls hln => ?_)
  replace hl : lv_has ls 4 [(3, .ref x9), (0, .ref a0), (1, .int k0), (2, .ref o0)] := hln
  clear hln
  refine lv_iconst (v := 1) hx hb d_La_play_13 (by decide) ?_
  have hP9 := hP.sub (ws' := [(a0, .inr (0, [.ref a1, .ref a2, .ref a3, .ref a4, .ref a5])), (a3, .inr (3, [.ref a18, .int (-1)])), (o0, .inl (cL, 1, .inr (.inl (fun _ => 0))))]) [0, 1, 2] rfl
  have hD9 := hD.sub (ws' := [(a0, .inr (0, [.ref a1, .ref a2, .ref a3, .ref a4, .ref a5])), (a3, .inr (3, [.ref a18, .int (-1)])), (o0, .inl (cL, 1, .inr (.inl (fun _ => 0))))]) [0, 1, 2] (by decide) rfl
  exact W.iret (v := 1) hx hb hr (fun t ht9 hW => ⟨⟨1, (), rfl, rfl, by rw [ht9]; exact hP9, hD9⟩, hS.F ht9⟩) hS.2.2 d_La_play_14

set_option maxHeartbeats 4000000 in
set_option maxRecDepth 100000 in
theorem w_play_1 (l : Launch) (hfl : l.flags = flags0) (dC : Nat → ClassId) (dI : Nat → Nat → Nat) (cI cL cZ : ClassId) (sz : Nat) (a0 : Nat) (a3 : Nat) (o0 : Nat) (a1 : Nat) (a2 : Nat) (a4 : Nat) (a5 : Nat) (a18 : Nat) (k0 : Int32) (h1 : ¬ k0 < 0) : Met l y_La_play (Cond.codeWith y_La_play method_7_code 4 (some .int) [(0, 9, 12, 13), (0, 9, 15, 15)] :: wsA) { frames := 7, cells := 1, slots := 6, locals := 121 } (va_Pc [.ref a0, .int k0, .ref o0] (fun U => U.heap.size = sz ∧ va_P (dC, dI) clA [(a0, .inr (0, [.ref a1, .ref a2, .ref a3, .ref a4, .ref a5])), (a3, .inr (3, [.ref a18, .int (-1)])), (o0, .inl (cL, 1, .inr (.inl (fun _ => 0))))] U.heap ∧ va_K (dC, dI) clA [(cI, .int), (cL, .long), (cZ, .boolean)] U ∧ va_D (fun _ => True) [(a0, .inr (0, [.ref a1, .ref a2, .ref a3, .ref a4, .ref a5])), (a3, .inr (3, [.ref a18, .int (-1)])), (o0, .inl (cL, 1, .inr (.inl (fun _ => 0))))] ∧ NwA U ∧ ThA (fun _ => False) U U.heap)) (va_Qi (fun r (_ : Unit) => r = 2) (fun _ t => va_P (dC, dI) clA [(a0, .inr (0, [.ref a1, .ref a2, .ref a3, .ref a4, .ref a5])), (a3, .inr (3, [.ref a18, .int (-1)])), (o0, .inl (cL, 1, .inr (.inl (fun _ => 0))))] t.heap ∧ va_D (va_A [(a0, .inr (0, [.ref a1, .ref a2, .ref a3, .ref a4, .ref a5])), (a3, .inr (3, [.ref a18, .int (-1)])), (o0, .inl (cL, 1, .inr (.inl (fun _ => 0))))] sz) [(a0, .inr (0, [.ref a1, .ref a2, .ref a3, .ref a4, .ref a5])), (a3, .inr (3, [.ref a18, .int (-1)])), (o0, .inl (cL, 1, .inr (.inl (fun _ => 0))))]) (va_A [(a0, .inr (0, [.ref a1, .ref a2, .ref a3, .ref a4, .ref a5])), (a3, .inr (3, [.ref a18, .int (-1)])), (o0, .inl (cL, 1, .inr (.inl (fun _ => 0))))] sz)) 1 6 (va_A [(a0, .inr (0, [.ref a1, .ref a2, .ref a3, .ref a4, .ref a5])), (a3, .inr (3, [.ref a18, .int (-1)])), (o0, .inl (cL, 1, .inr (.inl (fun _ => 0))))] sz) := by
  refine va_MetW (cc := method_7_code) (maxL := 4) (ret := (some .int)) (hh := [(0, 9, 12, 13), (0, 9, 15, 15)]) (by decide) rfl ?_
  intro p e s m args below meth c s₁ B hml hv
  obtain ⟨rfl, hsz, hP, hK, hD0, hN, hT⟩ := hv
  have hx := B.exec
  have hb := B.bytes
  have hr := B.returns
  have ht : ∀ w ∈ wsA, w.before _ s = true := fun w h => atoms_spec (ws := (Cond.codeWith y_La_play method_7_code 4 (some .int) [(0, 9, 12, 13), (0, 9, 15, 15)] :: wsA)) B.pre w (List.mem_cons_of_mem _ h)
  have hown : s.vm.findClass "NetUnfolderLaw" = some m.cls := findClass_of_methodNamed B.named
  have hlocks := B.notSynchronized
  have htab := hm_tab B (atoms_spec (ws := (Cond.codeWith y_La_play method_7_code 4 (some .int) [(0, 9, 12, 13), (0, 9, 15, 15)] :: wsA)) B.pre _ List.mem_cons_self)
  subst hsz
  have hD := hD0.self (sz := s.heap.size)
  generalize hAe : va_A [(a0, .inr (0, [.ref a1, .ref a2, .ref a3, .ref a4, .ref a5])), (a3, .inr (3, [.ref a18, .int (-1)])), (o0, .inl (cL, 1, .inr (.inl (fun _ => 0))))] s.heap.size = A at hD ⊢
  have hA : ∀ q : Nat, s.heap.size ≤ q → A q := fun q h => by rw [← hAe]; exact Or.inr h
  have hS : va_S A s.heap s.heap [] := va_S.rf
  have hl := lv_entry ([.ref a0, .int k0, .ref o0]) (n := 4) (Nat.le_of_ble_eq_true rfl)
  rw [lg_entry_eq]
  generalize (lg_sl ([.ref a0, .int k0, .ref o0]) ++ List.replicate (4 - (lg_sl ([.ref a0, .int k0, .ref o0])).length) Slot.unset).toArray = ls at hl ⊢
  replace hl : lv_has ls 4 [(0, .ref a0), (1, .int k0), (2, .ref o0)] := hl
  refine lv_aload_n hx hb d_La_play_0 rfl (lv_at hl 2 rfl) ?_
  refine lv_iconst (v := 0) hx hb d_La_play_1 (by decide) ?_
  refine lv_aload_n hx hb d_La_play_2 rfl (lv_at hl 0 rfl) ?_
  refine lv_iload_n hx hb d_La_play_3 rfl (lv_at hl 1 rfl) ?_
  have hPc := hP.sub (ws' := [(a0, .inr (0, [.ref a1, .ref a2, .ref a3, .ref a4, .ref a5])), (a3, .inr (3, [.ref a18, .int (-1)]))]) [0, 1] rfl
  have hDc := hD.sub (ws' := [(a0, .inr (0, [.ref a1, .ref a2, .ref a3, .ref a4, .ref a5])), (a3, .inr (3, [.ref a18, .int (-1)]))]) [0, 1] (by decide) rfl
  have hFc := va_free (wc := [(a0, .inr (0, [.ref a1, .ref a2, .ref a3, .ref a4, .ref a5])), (a3, .inr (3, [.ref a18, .int (-1)]))]) hD hS hA [0, 1] rfl
  refine tx_callCatch2 (C := "NetUnfolder") (As := [.int k0]) (rest := [.int 0, .ref o0]) (cls := "java/lang/IllegalStateException") ⟨hx, hb, hml, hown, ht⟩ (t_NU_play_1 l hfl dC dI cI cL cZ _ a0 a3 a1 a2 a4 a5 a18 k0 h1) (cwV 1 ht (good_V wd_3_225 wd_3_226 wd_3_227 wd_1_1 wd_3_228) rfl rfl rfl (by decide +kernel) ⟨Nat.le_of_ble_eq_true rfl, Nat.le_of_ble_eq_true rfl⟩) ⟨fun a U g mk q => by obtain ⟨q0, q1, qP, qK, qD, qN, qT⟩ := q; exact ⟨q0, q1, qP, va_K.moved (u := U) (U := U.calling g mk a) (Vm.Alike.refl U.vm) qK, qD, NwA.same (u := U) rfl qN, ThA.same (u := U) rfl qT⟩, (va_recv (q0 := 0) (ci := 0) hK hP rfl rfl), fun U hU hW => ⟨rfl, by rw [hU], by rw [hU]; exact hPc, va_K.moved hW.alike hK, hDc.weaken (fun _ _ _ _ => trivial), NwA.warm hW hN, by rw [hU]; exact ThA.warm hW hT⟩⟩ rfl hl.1 (lv_room (Nat.le_of_ble_eq_true rfl)) d_La_play_4 ⟨Nat.le_of_ble_eq_true rfl, Nat.le_of_ble_eq_true rfl⟩ htab (ht _ wd_3_4) (by decide) (ht _ wd_3_5) (by decide) (by decide) (by decide) (by decide) (by decide) (fun _ _ _ _ h => h) hT.2.2.2 (va_Nw.use rfl (hT.2.2.1 _ xc_ISE)) (fun x9 H1 hk1 => ?_)
  replace hP : va_P (dC, dI) clA [(a0, .inr (0, [.ref a1, .ref a2, .ref a3, .ref a4, .ref a5])), (a3, .inr (3, [.ref a18, .int (-1)])), (o0, .inl (cL, 1, .inr (.inl (fun _ => 0))))] H1 := pu_keep2 hP hk1
  replace hS := pu_S hS hk1
  clear hPc hDc hFc hk1
  refine W.cs (cells' := 1) (slots' := 6) rfl rfl ?_
  refine lv_astore_n (lv' := [(3, .ref x9), (0, .ref a0), (1, .int k0), (2, .ref o0)]) hx hb d_La_play_15 rfl hl (by decide) rfl (fun ls hln => ?_)
  replace hl : lv_has ls 4 [(3, .ref x9), (0, .ref a0), (1, .int k0), (2, .ref o0)] := hln
  clear hln
  refine lv_iconst (v := 2) hx hb d_La_play_16 (by decide) ?_
  have hP9 := hP.sub (ws' := [(a0, .inr (0, [.ref a1, .ref a2, .ref a3, .ref a4, .ref a5])), (a3, .inr (3, [.ref a18, .int (-1)])), (o0, .inl (cL, 1, .inr (.inl (fun _ => 0))))]) [0, 1, 2] rfl
  have hD9 := hD.sub (ws' := [(a0, .inr (0, [.ref a1, .ref a2, .ref a3, .ref a4, .ref a5])), (a3, .inr (3, [.ref a18, .int (-1)])), (o0, .inl (cL, 1, .inr (.inl (fun _ => 0))))]) [0, 1, 2] (by decide) rfl
  exact W.iret (v := 2) hx hb hr (fun t ht9 hW => ⟨⟨2, (), rfl, rfl, by rw [ht9]; exact hP9, hD9⟩, hS.F ht9⟩) hS.2.2 d_La_play_17
