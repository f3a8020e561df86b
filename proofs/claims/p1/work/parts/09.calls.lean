set_option maxHeartbeats 4000000 in
set_option maxRecDepth 100000 in
theorem c_NU_clear (l : Launch) (dC : Nat → ClassId) (dI : Nat → Nat → Nat) (cI cL cZ : ClassId) (sz : Nat) (a0 : Nat) (a2 : Nat) (a12 : Nat) (a3 : Nat) (a1 : Nat) (a4 : Nat) (a5 : Nat) (a8 : Nat) (a9 : Nat) (a10 : Nat) (a11 : Nat) (a13 : Nat) (a14 : Nat) (a15 : Nat) (a16 : Nat) (a17 : Nat) (a18 : Nat) (a6 : Nat) (a7 : Nat) : Met l y_NU_clear (Cond.code y_NU_clear prog_1_method_4_code 1 none :: wsA) { frames := 3, cells := 0, slots := 0, locals := 64 } (va_Pc [.ref a0] (fun U => U.heap.size = sz ∧ va_P (dC, dI) clA [(a0, .inr (0, [.ref a1, .ref a2, .ref a3, .ref a4, .ref a5])), (a2, .inr (2, [.int 0, .ref a8, .ref a9, .ref a10, .ref a11, .ref a12, .int 0, .ref a13, .ref a14, .ref a15, .ref a16, .ref a17, .int 0, .int 0])), (a12, .inl (cL, 8, .inr (.inl (fun _ => 0)))), (a3, .inr (3, [.ref a18, .int (-1)])), (a1, .inr (1, [.ref a6, .ref a7, .int 0, .int 0]))] U.heap ∧ va_K (dC, dI) clA [(cI, .int), (cL, .long), (cZ, .boolean)] U ∧ va_D (fun _ => True) [(a0, .inr (0, [.ref a1, .ref a2, .ref a3, .ref a4, .ref a5])), (a2, .inr (2, [.int 0, .ref a8, .ref a9, .ref a10, .ref a11, .ref a12, .int 0, .ref a13, .ref a14, .ref a15, .ref a16, .ref a17, .int 0, .int 0])), (a12, .inl (cL, 8, .inr (.inl (fun _ => 0)))), (a3, .inr (3, [.ref a18, .int (-1)])), (a1, .inr (1, [.ref a6, .ref a7, .int 0, .int 0]))] ∧ NwA U)) (va_Qv (fun _ : Unit => True) (fun _ t => va_P (dC, dI) clA [(a0, .inr (0, [.ref a1, .ref a2, .ref a3, .ref a4, .ref a5])), (a2, .inr (2, [.int 0, .ref a8, .ref a9, .ref a10, .ref a11, .ref a12, .int 0, .ref a13, .ref a14, .ref a15, .ref a16, .ref a17, .int 0, .int 0])), (a12, .inl (cL, 8, .inr (.inl (fun _ => 0)))), (a3, .inr (3, [.ref a18, .int (-1)])), (a1, .inr (1, [.ref a6, .ref a7, .int 0, .int 0]))] t.heap ∧ va_D (va_A [(a0, .inr (0, [.ref a1, .ref a2, .ref a3, .ref a4, .ref a5])), (a2, .inr (2, [.int 0, .ref a8, .ref a9, .ref a10, .ref a11, .ref a12, .int 0, .ref a13, .ref a14, .ref a15, .ref a16, .ref a17, .int 0, .int 0])), (a12, .inl (cL, 8, .inr (.inl (fun _ => 0)))), (a3, .inr (3, [.ref a18, .int (-1)])), (a1, .inr (1, [.ref a6, .ref a7, .int 0, .int 0]))] sz) [(a0, .inr (0, [.ref a1, .ref a2, .ref a3, .ref a4, .ref a5])), (a2, .inr (2, [.int 0, .ref a8, .ref a9, .ref a10, .ref a11, .ref a12, .int 0, .ref a13, .ref a14, .ref a15, .ref a16, .ref a17, .int 0, .int 0])), (a12, .inl (cL, 8, .inr (.inl (fun _ => 0)))), (a3, .inr (3, [.ref a18, .int (-1)])), (a1, .inr (1, [.ref a6, .ref a7, .int 0, .int 0]))]) (va_A [(a0, .inr (0, [.ref a1, .ref a2, .ref a3, .ref a4, .ref a5])), (a2, .inr (2, [.int 0, .ref a8, .ref a9, .ref a10, .ref a11, .ref a12, .int 0, .ref a13, .ref a14, .ref a15, .ref a16, .ref a17, .int 0, .int 0])), (a12, .inl (cL, 8, .inr (.inl (fun _ => 0)))), (a3, .inr (3, [.ref a18, .int (-1)])), (a1, .inr (1, [.ref a6, .ref a7, .int 0, .int 0]))] sz)) 0 0 (va_A [(a0, .inr (0, [.ref a1, .ref a2, .ref a3, .ref a4, .ref a5])), (a2, .inr (2, [.int 0, .ref a8, .ref a9, .ref a10, .ref a11, .ref a12, .int 0, .ref a13, .ref a14, .ref a15, .ref a16, .ref a17, .int 0, .int 0])), (a12, .inl (cL, 8, .inr (.inl (fun _ => 0)))), (a3, .inr (3, [.ref a18, .int (-1)])), (a1, .inr (1, [.ref a6, .ref a7, .int 0, .int 0]))] sz) := by
  refine Met.ofW (cc := prog_1_method_4_code) (maxL := 1) (ret := none) (by decide) rfl ?_
  intro p e s m args below meth c s₁ B hml hv
  obtain ⟨rfl, hsz, hP, hK, hD0, hN⟩ := hv
  have hx := B.exec
  have hb := B.bytes
  have hr := B.returns
  have ht : ∀ w ∈ wsA, w.before _ s = true := fun w h => atoms_spec (ws := (Cond.code y_NU_clear prog_1_method_4_code 1 none :: wsA)) B.pre w (List.mem_cons_of_mem _ h)
  have hown : s.vm.findClass "NetUnfolder" = some m.cls := findClass_of_methodNamed B.named
  have hlocks := B.notSynchronized
  subst hsz
  have hD := hD0.self (sz := s.heap.size)
  generalize hAe : va_A [(a0, .inr (0, [.ref a1, .ref a2, .ref a3, .ref a4, .ref a5])), (a2, .inr (2, [.int 0, .ref a8, .ref a9, .ref a10, .ref a11, .ref a12, .int 0, .ref a13, .ref a14, .ref a15, .ref a16, .ref a17, .int 0, .int 0])), (a12, .inl (cL, 8, .inr (.inl (fun _ => 0)))), (a3, .inr (3, [.ref a18, .int (-1)])), (a1, .inr (1, [.ref a6, .ref a7, .int 0, .int 0]))] s.heap.size = A at hD ⊢
  have hA : ∀ q : Nat, s.heap.size ≤ q → A q := fun q h => by rw [← hAe]; exact Or.inr h
  have hS : va_S A s.heap s.heap [] := va_S.rf
  have hl := lv_entry ([.ref a0]) (n := 1) (Nat.le_of_ble_eq_true rfl)
  rw [lg_entry_eq]
  generalize (lg_sl ([.ref a0]) ++ List.replicate (1 - (lg_sl ([.ref a0])).length) Slot.unset).toArray = ls at hl ⊢
  replace hl : lv_has ls 1 [(0, .ref a0)] := hl
  refine lv_aload_n hx hb d_NU_clear_0 rfl (lv_at hl 0 rfl) ?_
  have hPc := hP.sub (ws' := [(a0, .inr (0, [.ref a1, .ref a2, .ref a3, .ref a4, .ref a5])), (a2, .inr (2, [.int 0, .ref a8, .ref a9, .ref a10, .ref a11, .ref a12, .int 0, .ref a13, .ref a14, .ref a15, .ref a16, .ref a17, .int 0, .int 0])), (a12, .inl (cL, 8, .inr (.inl (fun _ => 0)))), (a3, .inr (3, [.ref a18, .int (-1)]))]) [0, 1, 2, 3] rfl
  have hDc := hD.sub (ws' := [(a0, .inr (0, [.ref a1, .ref a2, .ref a3, .ref a4, .ref a5])), (a2, .inr (2, [.int 0, .ref a8, .ref a9, .ref a10, .ref a11, .ref a12, .int 0, .ref a13, .ref a14, .ref a15, .ref a16, .ref a17, .int 0, .int 0])), (a12, .inl (cL, 8, .inr (.inl (fun _ => 0)))), (a3, .inr (3, [.ref a18, .int (-1)]))]) [0, 1, 2, 3] (by decide) rfl
  have hFc := va_free (wc := [(a0, .inr (0, [.ref a1, .ref a2, .ref a3, .ref a4, .ref a5])), (a2, .inr (2, [.int 0, .ref a8, .ref a9, .ref a10, .ref a11, .ref a12, .int 0, .ref a13, .ref a14, .ref a15, .ref a16, .ref a17, .int 0, .int 0])), (a12, .inl (cL, 8, .inr (.inl (fun _ => 0)))), (a3, .inr (3, [.ref a18, .int (-1)]))]) hD hS hA [0, 1, 2, 3] rfl
  refine va_callv (va_runV (C := "NetUnfolder") (As := []) (rest := []) ⟨hx, hb, hml, hown, ht⟩ (c_NU_drop l dC dI cI cL cZ _ a0 a2 a12 a3 a1 a4 a5 a8 a9 a10 a11 a13 a14 a15 a16 a17 a18 ) (cwV 0 ht (good_V wd_2_56 wd_2_58 ws_NU_dropPrefixAndWay wd_1_1 wd_2_59) rfl rfl rfl (by decide +kernel) ⟨Nat.le_of_ble_eq_true rfl, Nat.le_of_ble_eq_true rfl⟩) ⟨fun a U g mk q => by obtain ⟨q0, q1, qP, qK, qD, qN⟩ := q; exact ⟨q0, q1, qP, va_K.moved (u := U) (U := U.calling g mk a) (Vm.Alike.refl U.vm) qK, qD, NwA.same (u := U) rfl qN⟩, (va_recv (q0 := 0) (ci := 0) hK hP rfl rfl), fun U hU hW => ⟨rfl, by rw [hU], by rw [hU]; exact hPc, va_K.moved hW.alike hK, hDc.weaken (fun _ _ _ _ => trivial), NwA.warm hW hN⟩⟩ rfl rfl hl.1 rfl (lv_room (Nat.le_of_ble_eq_true rfl)) d_NU_clear_1 ⟨Nat.le_of_ble_eq_true rfl, Nat.le_of_ble_eq_true rfl⟩) hS (fun q _ h => hFc q h) hFc (fun u t H1 locs ht9 hvm hw2 hB hz1 hk1 hSn => ?_)
  obtain ⟨hP1, hD1⟩ := hB
  rw [ht9] at hP1
  obtain ⟨hPn, hDn⟩ := va_join (wr := [(a1, .inr (1, [.ref a6, .ref a7, .int 0, .int 0]))]) (w1 := [(a0, .inr (0, [.ref a1, .ref a2, .ref a3, .ref a4, .ref a5])), (a2, .inr (2, [.int 0, .ref a8, .ref a9, .ref a10, .ref a11, .ref a12, .int 0, .ref a13, .ref a14, .ref a15, .ref a16, .ref a17, .int 0, .int 0])), (a12, .inl (cL, 8, .inr (.inl (fun _ => 0)))), (a3, .inr (3, [.ref a18, .int (-1)]))]) hP hD [0, 1, 2, 3] [4] rfl rfl (by decide) (by decide) hk1 hFc hP1 hD1
  replace hP : va_P (dC, dI) clA [(a1, .inr (1, [.ref a6, .ref a7, .int 0, .int 0])), (a0, .inr (0, [.ref a1, .ref a2, .ref a3, .ref a4, .ref a5])), (a2, .inr (2, [.int 0, .ref a8, .ref a9, .ref a10, .ref a11, .ref a12, .int 0, .ref a13, .ref a14, .ref a15, .ref a16, .ref a17, .int 0, .int 0])), (a12, .inl (cL, 8, .inr (.inl (fun _ => 0)))), (a3, .inr (3, [.ref a18, .int (-1)]))] H1 := hPn
  replace hD : va_D A [(a1, .inr (1, [.ref a6, .ref a7, .int 0, .int 0])), (a0, .inr (0, [.ref a1, .ref a2, .ref a3, .ref a4, .ref a5])), (a2, .inr (2, [.int 0, .ref a8, .ref a9, .ref a10, .ref a11, .ref a12, .int 0, .ref a13, .ref a14, .ref a15, .ref a16, .ref a17, .int 0, .int 0])), (a12, .inl (cL, 8, .inr (.inl (fun _ => 0)))), (a3, .inr (3, [.ref a18, .int (-1)]))] := hDn
  replace hS := hSn
  clear hPn hDn hSn
  clear hPc hDc hFc hP1 hD1 hk1 hz1 ht9 hvm
  refine W.cs (cells' := 0) (slots' := 0) rfl rfl ?_
  refine lv_aload_n hx hb d_NU_clear_4 rfl (lv_at hl 0 rfl) ?_
  refine va_get (D := (dC, dI)) (ci := 0) (v := .ref a1) (C := "NetUnfolder") (T := T_NU) (N := 5) hx hb ht in_NU hown hK hP 1 rfl rfl 0 (by decide) (ht _ wd_2_36) (fun _ h9 => h9) rfl d_NU_clear_5 ?_
  have hPc := hP.sub (ws' := [(a1, .inr (1, [.ref a6, .ref a7, .int 0, .int 0]))]) [0] rfl
  have hDc := hD.sub (ws' := [(a1, .inr (1, [.ref a6, .ref a7, .int 0, .int 0]))]) [0] (by decide) rfl
  have hFc := va_free (wc := [(a1, .inr (1, [.ref a6, .ref a7, .int 0, .int 0]))]) hD hS hA [0] rfl
  refine va_callv (va_runV (C := "NetUnfolder$Net") (As := []) (rest := []) ⟨hx, hb, hml, hown, ht⟩ (c_Ne_wipe l dC dI cI cL cZ _ a1 a6 a7 ) (cwV 0 ht (good_V wd_2_71 wd_2_72 wd_2_73 wd_1_2 wd_2_74) rfl rfl rfl (by decide +kernel) ⟨Nat.le_of_ble_eq_true rfl, Nat.le_of_ble_eq_true rfl⟩) ⟨fun a U g mk q => by obtain ⟨q0, q1, qP, qK, qD, qN⟩ := q; exact ⟨q0, q1, qP, va_K.moved (u := U) (U := U.calling g mk a) (Vm.Alike.refl U.vm) qK, qD, NwA.same (u := U) rfl qN⟩, (va_recv (q0 := 0) (ci := 1) hK hP rfl rfl), fun U hU hW => ⟨rfl, by rw [hU], by rw [hU]; exact hPc, va_K.moved hW.alike hK, hDc.weaken (fun _ _ _ _ => trivial), NwA.warm hW hN⟩⟩ rfl rfl hl.1 rfl (lv_room (Nat.le_of_ble_eq_true rfl)) d_NU_clear_8 ⟨Nat.le_of_ble_eq_true rfl, Nat.le_of_ble_eq_true rfl⟩) hS (fun q _ h => hFc q h) hFc (fun u t H3 locs ht9 hvm hw4 hB hz1 hk1 hSn => ?_)
  obtain ⟨hP1, hD1⟩ := hB
  rw [ht9] at hP1
  obtain ⟨hPn, hDn⟩ := va_join (wr := [(a0, .inr (0, [.ref a1, .ref a2, .ref a3, .ref a4, .ref a5])), (a2, .inr (2, [.int 0, .ref a8, .ref a9, .ref a10, .ref a11, .ref a12, .int 0, .ref a13, .ref a14, .ref a15, .ref a16, .ref a17, .int 0, .int 0])), (a12, .inl (cL, 8, .inr (.inl (fun _ => 0)))), (a3, .inr (3, [.ref a18, .int (-1)]))]) (w1 := [(a1, .inr (1, [.ref a6, .ref a7, .int 0, .int 0]))]) hP hD [0] [1, 2, 3, 4] rfl rfl (by decide) (by decide) hk1 hFc hP1 hD1
  replace hP : va_P (dC, dI) clA [(a0, .inr (0, [.ref a1, .ref a2, .ref a3, .ref a4, .ref a5])), (a2, .inr (2, [.int 0, .ref a8, .ref a9, .ref a10, .ref a11, .ref a12, .int 0, .ref a13, .ref a14, .ref a15, .ref a16, .ref a17, .int 0, .int 0])), (a12, .inl (cL, 8, .inr (.inl (fun _ => 0)))), (a3, .inr (3, [.ref a18, .int (-1)])), (a1, .inr (1, [.ref a6, .ref a7, .int 0, .int 0]))] H3 := hPn
  replace hD : va_D A [(a0, .inr (0, [.ref a1, .ref a2, .ref a3, .ref a4, .ref a5])), (a2, .inr (2, [.int 0, .ref a8, .ref a9, .ref a10, .ref a11, .ref a12, .int 0, .ref a13, .ref a14, .ref a15, .ref a16, .ref a17, .int 0, .int 0])), (a12, .inl (cL, 8, .inr (.inl (fun _ => 0)))), (a3, .inr (3, [.ref a18, .int (-1)])), (a1, .inr (1, [.ref a6, .ref a7, .int 0, .int 0]))] := hDn
  replace hS := hSn
  clear hPn hDn hSn
  clear hPc hDc hFc hP1 hD1 hk1 hz1 ht9 hvm
  refine W.cs (cells' := 0) (slots' := 0) rfl rfl ?_
  have hP9 := hP.sub (ws' := [(a0, .inr (0, [.ref a1, .ref a2, .ref a3, .ref a4, .ref a5])), (a2, .inr (2, [.int 0, .ref a8, .ref a9, .ref a10, .ref a11, .ref a12, .int 0, .ref a13, .ref a14, .ref a15, .ref a16, .ref a17, .int 0, .int 0])), (a12, .inl (cL, 8, .inr (.inl (fun _ => 0)))), (a3, .inr (3, [.ref a18, .int (-1)])), (a1, .inr (1, [.ref a6, .ref a7, .int 0, .int 0]))]) [0, 1, 2, 3, 4] rfl
  have hD9 := hD.sub (ws' := [(a0, .inr (0, [.ref a1, .ref a2, .ref a3, .ref a4, .ref a5])), (a2, .inr (2, [.int 0, .ref a8, .ref a9, .ref a10, .ref a11, .ref a12, .int 0, .ref a13, .ref a14, .ref a15, .ref a16, .ref a17, .int 0, .int 0])), (a12, .inl (cL, 8, .inr (.inl (fun _ => 0)))), (a3, .inr (3, [.ref a18, .int (-1)])), (a1, .inr (1, [.ref a6, .ref a7, .int 0, .int 0]))]) [0, 1, 2, 3, 4] (by decide) rfl
  exact W.vret hx hb hr (fun t ht9 hW => ⟨⟨(), rfl, trivial, by rw [ht9]; exact hP9, hD9⟩, hS.F ht9⟩) hS.2.2 d_NU_clear_11

set_option maxHeartbeats 4000000 in
set_option maxRecDepth 100000 in
theorem c_NU_unfold (l : Launch) (dC : Nat → ClassId) (dI : Nat → Nat → Nat) (cI cL cZ : ClassId) (sz : Nat) (a0 : Nat) (a4 : Nat) (a1 : Nat) (a2 : Nat) (a12 : Nat) (a19 : Nat) (a3 : Nat) (a5 : Nat) (a6 : Nat) (a7 : Nat) (a8 : Nat) (a9 : Nat) (a10 : Nat) (a11 : Nat) (a13 : Nat) (a14 : Nat) (a15 : Nat) (a16 : Nat) (a17 : Nat) (a22 : Nat) (a23 : Nat) (a24 : Nat) : Met l y_NU_unfold (Cond.code y_NU_unfold prog_1_method_5_code 2 (some .int) :: wsA) { frames := 4, cells := 0, slots := 0, locals := 96 } (va_Pc [.ref a0] (fun U => U.heap.size = sz ∧ va_P (dC, dI) clA [(a0, .inr (0, [.ref a1, .ref a2, .ref a3, .ref a4, .ref a5])), (a4, .inr (4, [.ref a1, .ref a2, .ref a3, .ref a19])), (a1, .inr (1, [.ref a6, .ref a7, .int 0, .int 0])), (a2, .inr (2, [.int 0, .ref a8, .ref a9, .ref a10, .ref a11, .ref a12, .int 0, .ref a13, .ref a14, .ref a15, .ref a16, .ref a17, .int 0, .int 0])), (a12, .inl (cL, 8, .inr (.inl (fun _ => 0)))), (a19, .inr (5, [.ref a2, .int 0, .ref a22, .ref a23, .ref a24]))] U.heap ∧ va_K (dC, dI) clA [(cI, .int), (cL, .long), (cZ, .boolean)] U ∧ va_D (fun _ => True) [(a0, .inr (0, [.ref a1, .ref a2, .ref a3, .ref a4, .ref a5])), (a4, .inr (4, [.ref a1, .ref a2, .ref a3, .ref a19])), (a1, .inr (1, [.ref a6, .ref a7, .int 0, .int 0])), (a2, .inr (2, [.int 0, .ref a8, .ref a9, .ref a10, .ref a11, .ref a12, .int 0, .ref a13, .ref a14, .ref a15, .ref a16, .ref a17, .int 0, .int 0])), (a12, .inl (cL, 8, .inr (.inl (fun _ => 0)))), (a19, .inr (5, [.ref a2, .int 0, .ref a22, .ref a23, .ref a24]))] ∧ NwA U)) (va_Qi (fun r (_ : Unit) => r = 0) (fun _ t => va_P (dC, dI) clA [(a0, .inr (0, [.ref a1, .ref a2, .ref a3, .ref a4, .ref a5])), (a12, .inl (cL, 8, .inr (.inl (fun _ => 0)))), (a2, .inr (2, [.int 0, .ref a8, .ref a9, .ref a10, .ref a11, .ref a12, .int 0, .ref a13, .ref a14, .ref a15, .ref a16, .ref a17, .int 0, .int 1])), (a4, .inr (4, [.ref a1, .ref a2, .ref a3, .ref a19])), (a1, .inr (1, [.ref a6, .ref a7, .int 0, .int 0])), (a19, .inr (5, [.ref a2, .int 0, .ref a22, .ref a23, .ref a24]))] t.heap ∧ va_D (va_A [(a0, .inr (0, [.ref a1, .ref a2, .ref a3, .ref a4, .ref a5])), (a4, .inr (4, [.ref a1, .ref a2, .ref a3, .ref a19])), (a1, .inr (1, [.ref a6, .ref a7, .int 0, .int 0])), (a2, .inr (2, [.int 0, .ref a8, .ref a9, .ref a10, .ref a11, .ref a12, .int 0, .ref a13, .ref a14, .ref a15, .ref a16, .ref a17, .int 0, .int 0])), (a12, .inl (cL, 8, .inr (.inl (fun _ => 0)))), (a19, .inr (5, [.ref a2, .int 0, .ref a22, .ref a23, .ref a24]))] sz) [(a0, .inr (0, [.ref a1, .ref a2, .ref a3, .ref a4, .ref a5])), (a12, .inl (cL, 8, .inr (.inl (fun _ => 0)))), (a2, .inr (2, [.int 0, .ref a8, .ref a9, .ref a10, .ref a11, .ref a12, .int 0, .ref a13, .ref a14, .ref a15, .ref a16, .ref a17, .int 0, .int 1])), (a4, .inr (4, [.ref a1, .ref a2, .ref a3, .ref a19])), (a1, .inr (1, [.ref a6, .ref a7, .int 0, .int 0])), (a19, .inr (5, [.ref a2, .int 0, .ref a22, .ref a23, .ref a24]))]) (va_A [(a0, .inr (0, [.ref a1, .ref a2, .ref a3, .ref a4, .ref a5])), (a4, .inr (4, [.ref a1, .ref a2, .ref a3, .ref a19])), (a1, .inr (1, [.ref a6, .ref a7, .int 0, .int 0])), (a2, .inr (2, [.int 0, .ref a8, .ref a9, .ref a10, .ref a11, .ref a12, .int 0, .ref a13, .ref a14, .ref a15, .ref a16, .ref a17, .int 0, .int 0])), (a12, .inl (cL, 8, .inr (.inl (fun _ => 0)))), (a19, .inr (5, [.ref a2, .int 0, .ref a22, .ref a23, .ref a24]))] sz)) 0 0 (va_A [(a0, .inr (0, [.ref a1, .ref a2, .ref a3, .ref a4, .ref a5])), (a4, .inr (4, [.ref a1, .ref a2, .ref a3, .ref a19])), (a1, .inr (1, [.ref a6, .ref a7, .int 0, .int 0])), (a2, .inr (2, [.int 0, .ref a8, .ref a9, .ref a10, .ref a11, .ref a12, .int 0, .ref a13, .ref a14, .ref a15, .ref a16, .ref a17, .int 0, .int 0])), (a12, .inl (cL, 8, .inr (.inl (fun _ => 0)))), (a19, .inr (5, [.ref a2, .int 0, .ref a22, .ref a23, .ref a24]))] sz) := by
  refine Met.ofW (cc := prog_1_method_5_code) (maxL := 2) (ret := (some .int)) (by decide) rfl ?_
  intro p e s m args below meth c s₁ B hml hv
  obtain ⟨rfl, hsz, hP, hK, hD0, hN⟩ := hv
  have hx := B.exec
  have hb := B.bytes
  have hr := B.returns
  have ht : ∀ w ∈ wsA, w.before _ s = true := fun w h => atoms_spec (ws := (Cond.code y_NU_unfold prog_1_method_5_code 2 (some .int) :: wsA)) B.pre w (List.mem_cons_of_mem _ h)
  have hown : s.vm.findClass "NetUnfolder" = some m.cls := findClass_of_methodNamed B.named
  have hlocks := B.notSynchronized
  subst hsz
  have hD := hD0.self (sz := s.heap.size)
  generalize hAe : va_A [(a0, .inr (0, [.ref a1, .ref a2, .ref a3, .ref a4, .ref a5])), (a4, .inr (4, [.ref a1, .ref a2, .ref a3, .ref a19])), (a1, .inr (1, [.ref a6, .ref a7, .int 0, .int 0])), (a2, .inr (2, [.int 0, .ref a8, .ref a9, .ref a10, .ref a11, .ref a12, .int 0, .ref a13, .ref a14, .ref a15, .ref a16, .ref a17, .int 0, .int 0])), (a12, .inl (cL, 8, .inr (.inl (fun _ => 0)))), (a19, .inr (5, [.ref a2, .int 0, .ref a22, .ref a23, .ref a24]))] s.heap.size = A at hD ⊢
  have hA : ∀ q : Nat, s.heap.size ≤ q → A q := fun q h => by rw [← hAe]; exact Or.inr h
  have hS : va_S A s.heap s.heap [] := va_S.rf
  have hl := lv_entry ([.ref a0]) (n := 2) (Nat.le_of_ble_eq_true rfl)
  rw [lg_entry_eq]
  generalize (lg_sl ([.ref a0]) ++ List.replicate (2 - (lg_sl ([.ref a0])).length) Slot.unset).toArray = ls at hl ⊢
  replace hl : lv_has ls 2 [(0, .ref a0)] := hl
  refine lv_aload_n hx hb d_NU_unfold_0 rfl (lv_at hl 0 rfl) ?_
  refine va_get (D := (dC, dI)) (ci := 0) (v := .ref a4) (C := "NetUnfolder") (T := T_NU) (N := 5) hx hb ht in_NU hown hK hP 0 rfl rfl 3 (by decide) (ht _ wd_2_39) (fun _ h9 => h9) rfl d_NU_unfold_1 ?_
  have hPc := hP.sub (ws' := [(a4, .inr (4, [.ref a1, .ref a2, .ref a3, .ref a19])), (a1, .inr (1, [.ref a6, .ref a7, .int 0, .int 0])), (a2, .inr (2, [.int 0, .ref a8, .ref a9, .ref a10, .ref a11, .ref a12, .int 0, .ref a13, .ref a14, .ref a15, .ref a16, .ref a17, .int 0, .int 0])), (a12, .inl (cL, 8, .inr (.inl (fun _ => 0)))), (a19, .inr (5, [.ref a2, .int 0, .ref a22, .ref a23, .ref a24]))]) [1, 2, 3, 4, 5] rfl
  have hDc := hD.sub (ws' := [(a4, .inr (4, [.ref a1, .ref a2, .ref a3, .ref a19])), (a1, .inr (1, [.ref a6, .ref a7, .int 0, .int 0])), (a2, .inr (2, [.int 0, .ref a8, .ref a9, .ref a10, .ref a11, .ref a12, .int 0, .ref a13, .ref a14, .ref a15, .ref a16, .ref a17, .int 0, .int 0])), (a12, .inl (cL, 8, .inr (.inl (fun _ => 0)))), (a19, .inr (5, [.ref a2, .int 0, .ref a22, .ref a23, .ref a24]))]) [1, 2, 3, 4, 5] (by decide) rfl
  have hFc := va_free (wc := [(a4, .inr (4, [.ref a1, .ref a2, .ref a3, .ref a19])), (a1, .inr (1, [.ref a6, .ref a7, .int 0, .int 0])), (a2, .inr (2, [.int 0, .ref a8, .ref a9, .ref a10, .ref a11, .ref a12, .int 0, .ref a13, .ref a14, .ref a15, .ref a16, .ref a17, .int 0, .int 0])), (a12, .inl (cL, 8, .inr (.inl (fun _ => 0)))), (a19, .inr (5, [.ref a2, .int 0, .ref a22, .ref a23, .ref a24]))]) hD hS hA [1, 2, 3, 4, 5] rfl
  refine va_calli (va_runV (C := "NetUnfolder$Unfolding") (As := []) (rest := []) ⟨hx, hb, hml, hown, ht⟩ (c_Un_run l dC dI cI cL cZ _ a4 a1 a2 a12 a19 a3 a6 a7 a8 a9 a10 a11 a13 a14 a15 a16 a17 a22 a23 a24 ) (cwV 0 ht (good_V wd_2_79 wd_2_80 wd_2_81 wd_1_5 wd_2_82) rfl rfl rfl (by decide +kernel) ⟨Nat.le_of_ble_eq_true rfl, Nat.le_of_ble_eq_true rfl⟩) ⟨fun a U g mk q => by obtain ⟨q0, q1, qP, qK, qD, qN⟩ := q; exact ⟨q0, q1, qP, va_K.moved (u := U) (U := U.calling g mk a) (Vm.Alike.refl U.vm) qK, qD, NwA.same (u := U) rfl qN⟩, (va_recv (q0 := 1) (ci := 4) hK hP rfl rfl), fun U hU hW => ⟨rfl, by rw [hU], by rw [hU]; exact hPc, va_K.moved hW.alike hK, hDc.weaken (fun _ _ _ _ => trivial), NwA.warm hW hN⟩⟩ rfl rfl hl.1 rfl (lv_room (Nat.le_of_ble_eq_true rfl)) d_NU_unfold_4 ⟨Nat.le_of_ble_eq_true rfl, Nat.le_of_ble_eq_true rfl⟩) hS (fun q _ h => hFc q h) hFc (fun r9 u t H1 locs ht9 hvm hw2 hB hz1 hk1 hSn => ?_)
  obtain ⟨hP1, hD1⟩ := hB
  rw [ht9] at hP1
  obtain ⟨hPn, hDn⟩ := va_join (wr := [(a0, .inr (0, [.ref a1, .ref a2, .ref a3, .ref a4, .ref a5]))]) (w1 := [(a12, .inl (cL, 8, .inr (.inl (fun _ => 0)))), (a2, .inr (2, [.int 0, .ref a8, .ref a9, .ref a10, .ref a11, .ref a12, .int 0, .ref a13, .ref a14, .ref a15, .ref a16, .ref a17, .int 0, .int 1])), (a4, .inr (4, [.ref a1, .ref a2, .ref a3, .ref a19])), (a1, .inr (1, [.ref a6, .ref a7, .int 0, .int 0])), (a19, .inr (5, [.ref a2, .int 0, .ref a22, .ref a23, .ref a24]))]) hP hD [1, 2, 3, 4, 5] [0] rfl rfl (by decide) (by decide) hk1 hFc hP1 hD1
  replace hP : va_P (dC, dI) clA [(a0, .inr (0, [.ref a1, .ref a2, .ref a3, .ref a4, .ref a5])), (a12, .inl (cL, 8, .inr (.inl (fun _ => 0)))), (a2, .inr (2, [.int 0, .ref a8, .ref a9, .ref a10, .ref a11, .ref a12, .int 0, .ref a13, .ref a14, .ref a15, .ref a16, .ref a17, .int 0, .int 1])), (a4, .inr (4, [.ref a1, .ref a2, .ref a3, .ref a19])), (a1, .inr (1, [.ref a6, .ref a7, .int 0, .int 0])), (a19, .inr (5, [.ref a2, .int 0, .ref a22, .ref a23, .ref a24]))] H1 := hPn
  replace hD : va_D A [(a0, .inr (0, [.ref a1, .ref a2, .ref a3, .ref a4, .ref a5])), (a12, .inl (cL, 8, .inr (.inl (fun _ => 0)))), (a2, .inr (2, [.int 0, .ref a8, .ref a9, .ref a10, .ref a11, .ref a12, .int 0, .ref a13, .ref a14, .ref a15, .ref a16, .ref a17, .int 0, .int 1])), (a4, .inr (4, [.ref a1, .ref a2, .ref a3, .ref a19])), (a1, .inr (1, [.ref a6, .ref a7, .int 0, .int 0])), (a19, .inr (5, [.ref a2, .int 0, .ref a22, .ref a23, .ref a24]))] := hDn
  replace hS := hSn
  clear hPn hDn hSn
  clear hPc hDc hFc hP1 hD1 hk1 hz1 ht9 hvm
  refine W.cs (cells' := 0) (slots' := 0) rfl rfl ?_
  subst hw2
  refine lv_istore_n (lv' := [(1, .int 0), (0, .ref a0)]) hx hb d_NU_unfold_7 rfl hl (by decide) rfl (fun ls hln => ?_)
  replace hl : lv_has ls 2 [(1, .int 0), (0, .ref a0)] := hln
  clear hln
  refine lv_iload_n hx hb d_NU_unfold_8 rfl (lv_at hl 0 rfl) ?_
  refine lv_bipush (v := (-3)) hx hb d_NU_unfold_9 (by decide) ?_
  refine lv_icmp_ne (tgt := 18) hx hb d_NU_unfold_11 (by decide) (fun _ => ?_) (fun h => absurd h (by decide))
  refine lv_iload_n hx hb d_NU_unfold_18 rfl (lv_at hl 0 rfl) ?_
  have hP9 := hP.sub (ws' := [(a0, .inr (0, [.ref a1, .ref a2, .ref a3, .ref a4, .ref a5])), (a12, .inl (cL, 8, .inr (.inl (fun _ => 0)))), (a2, .inr (2, [.int 0, .ref a8, .ref a9, .ref a10, .ref a11, .ref a12, .int 0, .ref a13, .ref a14, .ref a15, .ref a16, .ref a17, .int 0, .int 1])), (a4, .inr (4, [.ref a1, .ref a2, .ref a3, .ref a19])), (a1, .inr (1, [.ref a6, .ref a7, .int 0, .int 0])), (a19, .inr (5, [.ref a2, .int 0, .ref a22, .ref a23, .ref a24]))]) [0, 1, 2, 3, 4, 5] rfl
  have hD9 := hD.sub (ws' := [(a0, .inr (0, [.ref a1, .ref a2, .ref a3, .ref a4, .ref a5])), (a12, .inl (cL, 8, .inr (.inl (fun _ => 0)))), (a2, .inr (2, [.int 0, .ref a8, .ref a9, .ref a10, .ref a11, .ref a12, .int 0, .ref a13, .ref a14, .ref a15, .ref a16, .ref a17, .int 0, .int 1])), (a4, .inr (4, [.ref a1, .ref a2, .ref a3, .ref a19])), (a1, .inr (1, [.ref a6, .ref a7, .int 0, .int 0])), (a19, .inr (5, [.ref a2, .int 0, .ref a22, .ref a23, .ref a24]))]) [0, 1, 2, 3, 4, 5] (by decide) rfl
  exact W.iret (v := 0) hx hb hr (fun t ht9 hW => ⟨⟨0, (), rfl, rfl, by rw [ht9]; exact hP9, hD9⟩, hS.F ht9⟩) hS.2.2 d_NU_unfold_19

set_option maxHeartbeats 4000000 in
set_option maxRecDepth 100000 in
theorem c_NU_transition_ok (l : Launch) (dC : Nat → ClassId) (dI : Nat → Nat → Nat) (cI cL cZ : ClassId) (sz : Nat) (a0 : Nat) (a2 : Nat) (a12 : Nat) (a3 : Nat) (a1 : Nat) (a6 : Nat) (a7 : Nat) (a4 : Nat) (a5 : Nat) (a8 : Nat) (a9 : Nat) (a10 : Nat) (a11 : Nat) (a13 : Nat) (a14 : Nat) (a15 : Nat) (a16 : Nat) (a17 : Nat) (a18 : Nat) (k0 : Int32) (k1 : Int32) (h1 : ¬ k0 < 1) (h2 : ¬ 255 < k0) (h3 : ¬ k1 < 0) (h4 : ¬ 255 < k1) : Met l y_NU_transition (Cond.code y_NU_transition prog_1_method_2_code 3 (some .int) :: wsA) { frames := 3, cells := 0, slots := 0, locals := 64 } (va_Pc [.ref a0, .int k0, .int k1] (fun U => U.heap.size = sz ∧ va_P (dC, dI) clA [(a0, .inr (0, [.ref a1, .ref a2, .ref a3, .ref a4, .ref a5])), (a2, .inr (2, [.int 0, .ref a8, .ref a9, .ref a10, .ref a11, .ref a12, .int 0, .ref a13, .ref a14, .ref a15, .ref a16, .ref a17, .int 0, .int 0])), (a12, .inl (cL, 8, .inr (.inl (fun _ => 0)))), (a3, .inr (3, [.ref a18, .int (-1)])), (a1, .inr (1, [.ref a6, .ref a7, .int 0, .int 0])), (a6, .inl (cI, 8, .inl (fun _ => 0))), (a7, .inl (cI, 8, .inl (fun _ => 0)))] U.heap ∧ va_K (dC, dI) clA [(cI, .int), (cL, .long), (cZ, .boolean)] U ∧ va_D (fun _ => True) [(a0, .inr (0, [.ref a1, .ref a2, .ref a3, .ref a4, .ref a5])), (a2, .inr (2, [.int 0, .ref a8, .ref a9, .ref a10, .ref a11, .ref a12, .int 0, .ref a13, .ref a14, .ref a15, .ref a16, .ref a17, .int 0, .int 0])), (a12, .inl (cL, 8, .inr (.inl (fun _ => 0)))), (a3, .inr (3, [.ref a18, .int (-1)])), (a1, .inr (1, [.ref a6, .ref a7, .int 0, .int 0])), (a6, .inl (cI, 8, .inl (fun _ => 0))), (a7, .inl (cI, 8, .inl (fun _ => 0)))] ∧ NwA U)) (va_Qi (fun r (_ : Unit) => r = 0) (fun _ t => va_P (dC, dI) clA [(a0, .inr (0, [.ref a1, .ref a2, .ref a3, .ref a4, .ref a5])), (a2, .inr (2, [.int 0, .ref a8, .ref a9, .ref a10, .ref a11, .ref a12, .int 0, .ref a13, .ref a14, .ref a15, .ref a16, .ref a17, .int 0, .int 0])), (a12, .inl (cL, 8, .inr (.inl (fun _ => 0)))), (a3, .inr (3, [.ref a18, .int (-1)])), (a1, .inr (1, [.ref a6, .ref a7, .int 1, .int 0])), (a6, .inl (cI, 8, .inl (upd (fun _ => 0) (0 : Int32).toNatClampNeg k0))), (a7, .inl (cI, 8, .inl (upd (fun _ => 0) (0 : Int32).toNatClampNeg k1)))] t.heap ∧ va_D (va_A [(a0, .inr (0, [.ref a1, .ref a2, .ref a3, .ref a4, .ref a5])), (a2, .inr (2, [.int 0, .ref a8, .ref a9, .ref a10, .ref a11, .ref a12, .int 0, .ref a13, .ref a14, .ref a15, .ref a16, .ref a17, .int 0, .int 0])), (a12, .inl (cL, 8, .inr (.inl (fun _ => 0)))), (a3, .inr (3, [.ref a18, .int (-1)])), (a1, .inr (1, [.ref a6, .ref a7, .int 0, .int 0])), (a6, .inl (cI, 8, .inl (fun _ => 0))), (a7, .inl (cI, 8, .inl (fun _ => 0)))] sz) [(a0, .inr (0, [.ref a1, .ref a2, .ref a3, .ref a4, .ref a5])), (a2, .inr (2, [.int 0, .ref a8, .ref a9, .ref a10, .ref a11, .ref a12, .int 0, .ref a13, .ref a14, .ref a15, .ref a16, .ref a17, .int 0, .int 0])), (a12, .inl (cL, 8, .inr (.inl (fun _ => 0)))), (a3, .inr (3, [.ref a18, .int (-1)])), (a1, .inr (1, [.ref a6, .ref a7, .int 1, .int 0])), (a6, .inl (cI, 8, .inl (upd (fun _ => 0) (0 : Int32).toNatClampNeg k0))), (a7, .inl (cI, 8, .inl (upd (fun _ => 0) (0 : Int32).toNatClampNeg k1)))]) (va_A [(a0, .inr (0, [.ref a1, .ref a2, .ref a3, .ref a4, .ref a5])), (a2, .inr (2, [.int 0, .ref a8, .ref a9, .ref a10, .ref a11, .ref a12, .int 0, .ref a13, .ref a14, .ref a15, .ref a16, .ref a17, .int 0, .int 0])), (a12, .inl (cL, 8, .inr (.inl (fun _ => 0)))), (a3, .inr (3, [.ref a18, .int (-1)])), (a1, .inr (1, [.ref a6, .ref a7, .int 0, .int 0])), (a6, .inl (cI, 8, .inl (fun _ => 0))), (a7, .inl (cI, 8, .inl (fun _ => 0)))] sz)) 0 0 (va_A [(a0, .inr (0, [.ref a1, .ref a2, .ref a3, .ref a4, .ref a5])), (a2, .inr (2, [.int 0, .ref a8, .ref a9, .ref a10, .ref a11, .ref a12, .int 0, .ref a13, .ref a14, .ref a15, .ref a16, .ref a17, .int 0, .int 0])), (a12, .inl (cL, 8, .inr (.inl (fun _ => 0)))), (a3, .inr (3, [.ref a18, .int (-1)])), (a1, .inr (1, [.ref a6, .ref a7, .int 0, .int 0])), (a6, .inl (cI, 8, .inl (fun _ => 0))), (a7, .inl (cI, 8, .inl (fun _ => 0)))] sz) := by
  refine Met.ofW (cc := prog_1_method_2_code) (maxL := 3) (ret := (some .int)) (by decide) rfl ?_
  intro p e s m args below meth c s₁ B hml hv
  obtain ⟨rfl, hsz, hP, hK, hD0, hN⟩ := hv
  have hx := B.exec
  have hb := B.bytes
  have hr := B.returns
  have ht : ∀ w ∈ wsA, w.before _ s = true := fun w h => atoms_spec (ws := (Cond.code y_NU_transition prog_1_method_2_code 3 (some .int) :: wsA)) B.pre w (List.mem_cons_of_mem _ h)
  have hown : s.vm.findClass "NetUnfolder" = some m.cls := findClass_of_methodNamed B.named
  have hlocks := B.notSynchronized
  subst hsz
  have hD := hD0.self (sz := s.heap.size)
  generalize hAe : va_A [(a0, .inr (0, [.ref a1, .ref a2, .ref a3, .ref a4, .ref a5])), (a2, .inr (2, [.int 0, .ref a8, .ref a9, .ref a10, .ref a11, .ref a12, .int 0, .ref a13, .ref a14, .ref a15, .ref a16, .ref a17, .int 0, .int 0])), (a12, .inl (cL, 8, .inr (.inl (fun _ => 0)))), (a3, .inr (3, [.ref a18, .int (-1)])), (a1, .inr (1, [.ref a6, .ref a7, .int 0, .int 0])), (a6, .inl (cI, 8, .inl (fun _ => 0))), (a7, .inl (cI, 8, .inl (fun _ => 0)))] s.heap.size = A at hD ⊢
  have hA : ∀ q : Nat, s.heap.size ≤ q → A q := fun q h => by rw [← hAe]; exact Or.inr h
  have hS : va_S A s.heap s.heap [] := va_S.rf
  have hl := lv_entry ([.ref a0, .int k0, .int k1]) (n := 3) (Nat.le_of_ble_eq_true rfl)
  rw [lg_entry_eq]
  generalize (lg_sl ([.ref a0, .int k0, .int k1]) ++ List.replicate (3 - (lg_sl ([.ref a0, .int k0, .int k1])).length) Slot.unset).toArray = ls at hl ⊢
  replace hl : lv_has ls 3 [(0, .ref a0), (1, .int k0), (2, .int k1)] := hl
  refine lv_iload_n hx hb d_NU_transition_0 rfl (lv_at hl 1 rfl) ?_
  refine lv_if_eq (tgt := 18) hx hb d_NU_transition_1 (by decide) (fun h9 => (by exfalso; have eh1 := fa_nlt (k := 1) (by decide) h1; have eh2 := fb_nlt (k := 255) (by decide) h2; have eh9 := fa_eq (k := 0) (by decide) h9; omega)) (fun _ => ?_)
  refine lv_iload_n hx hb d_NU_transition_4 rfl (lv_at hl 1 rfl) ?_
  have hPc : va_P (dC, dI) clA [] _ := pu_P (H := s.heap)
  have hDc : va_D (fun _ => True) [] := pu_D
  have hFc := pu_free hS hA
  refine va_calli (va_runS (As := [.int k0]) (rest := []) ⟨hx, hb, hml, hown, ht⟩ (c_NU_isMarking_ok l dC dI cI cL cZ _ k0 (ga_nlt (k := 0) (by decide) (by have eh1 := fa_nlt (k := 1) (by decide) h1; have eh2 := fb_nlt (k := 255) (by decide) h2; omega)) h2) (va_cwS 1 ht (good_S wd_3_10 wd_3_11 wd_1_1 wd_3_12) rfl rfl rfl (by decide +kernel) ⟨Nat.le_of_ble_eq_true rfl, Nat.le_of_ble_eq_true rfl⟩) ⟨fun a U g mk q => by obtain ⟨q0, q1, qP, qK, qD, qN⟩ := q; exact ⟨q0, q1, qP, va_K.moved (u := U) (U := U.calling g mk a) (Vm.Alike.refl U.vm) qK, qD, NwA.same (u := U) rfl qN⟩, fun U hU hW => ⟨rfl, by rw [hU], by rw [hU]; exact hPc, va_K.moved hW.alike hK, hDc.weaken (fun _ _ _ _ => trivial), NwA.warm hW hN⟩⟩ rfl rfl hl.1 rfl (lv_room (Nat.le_of_ble_eq_true rfl)) d_NU_transition_5 ⟨Nat.le_of_ble_eq_true rfl, Nat.le_of_ble_eq_true rfl⟩) hS (fun q _ h => hFc q h) hFc (fun r9 u t H1 locs ht9 hvm hw2 hB hz1 hk1 hSn => ?_)
  replace hP : va_P (dC, dI) clA [(a0, .inr (0, [.ref a1, .ref a2, .ref a3, .ref a4, .ref a5])), (a2, .inr (2, [.int 0, .ref a8, .ref a9, .ref a10, .ref a11, .ref a12, .int 0, .ref a13, .ref a14, .ref a15, .ref a16, .ref a17, .int 0, .int 0])), (a12, .inl (cL, 8, .inr (.inl (fun _ => 0)))), (a3, .inr (3, [.ref a18, .int (-1)])), (a1, .inr (1, [.ref a6, .ref a7, .int 0, .int 0])), (a6, .inl (cI, 8, .inl (fun _ => 0))), (a7, .inl (cI, 8, .inl (fun _ => 0)))] H1 := pu_keep hP hk1
  replace hS := hSn
  clear hSn hPc hDc hFc hk1 hz1 ht9 hvm hB
  refine W.cs (cells' := 0) (slots' := 0) rfl rfl ?_
  subst hw2
  refine lv_if_eq (tgt := 18) hx hb d_NU_transition_8 (by decide) (fun h => absurd h (by decide)) (fun _ => ?_)
  refine lv_iload_n hx hb d_NU_transition_11 rfl (lv_at hl 2 rfl) ?_
  have hPc : va_P (dC, dI) clA [] _ := pu_P (H := H1)
  have hDc : va_D (fun _ => True) [] := pu_D
  have hFc := pu_free hS hA
  refine va_calli (va_runS (As := [.int k1]) (rest := []) ⟨hx, hb, hml, hown, ht⟩ (c_NU_isMarking_ok l dC dI cI cL cZ _ k1 h3 h4) (va_cwS 1 ht (good_S wd_3_10 wd_3_11 wd_1_1 wd_3_12) rfl rfl rfl (by decide +kernel) ⟨Nat.le_of_ble_eq_true rfl, Nat.le_of_ble_eq_true rfl⟩) ⟨fun a U g mk q => by obtain ⟨q0, q1, qP, qK, qD, qN⟩ := q; exact ⟨q0, q1, qP, va_K.moved (u := U) (U := U.calling g mk a) (Vm.Alike.refl U.vm) qK, qD, NwA.same (u := U) rfl qN⟩, fun U hU hW => ⟨rfl, by rw [hU], by rw [hU]; exact hPc, va_K.moved hW.alike hK, hDc.weaken (fun _ _ _ _ => trivial), NwA.warm hW hN⟩⟩ rfl rfl hl.1 rfl (lv_room (Nat.le_of_ble_eq_true rfl)) d_NU_transition_12 ⟨Nat.le_of_ble_eq_true rfl, Nat.le_of_ble_eq_true rfl⟩) hS (fun q _ h => hFc q h) hFc (fun r9 u t H3 locs ht9 hvm hw4 hB hz1 hk1 hSn => ?_)
  replace hP : va_P (dC, dI) clA [(a0, .inr (0, [.ref a1, .ref a2, .ref a3, .ref a4, .ref a5])), (a2, .inr (2, [.int 0, .ref a8, .ref a9, .ref a10, .ref a11, .ref a12, .int 0, .ref a13, .ref a14, .ref a15, .ref a16, .ref a17, .int 0, .int 0])), (a12, .inl (cL, 8, .inr (.inl (fun _ => 0)))), (a3, .inr (3, [.ref a18, .int (-1)])), (a1, .inr (1, [.ref a6, .ref a7, .int 0, .int 0])), (a6, .inl (cI, 8, .inl (fun _ => 0))), (a7, .inl (cI, 8, .inl (fun _ => 0)))] H3 := pu_keep hP hk1
  replace hS := hSn
  clear hSn hPc hDc hFc hk1 hz1 ht9 hvm hB
  refine W.cs (cells' := 0) (slots' := 0) rfl rfl ?_
  subst hw4
  refine lv_if_ne (tgt := 26) hx hb d_NU_transition_15 (by decide) (fun _ => ?_) (fun h => absurd h (by decide))
  refine lv_aload_n hx hb d_NU_transition_26 rfl (lv_at hl 0 rfl) ?_
  refine va_get (D := (dC, dI)) (ci := 0) (v := .ref a1) (C := "NetUnfolder") (T := T_NU) (N := 5) hx hb ht in_NU hown hK hP 0 rfl rfl 0 (by decide) (ht _ wd_2_36) (fun _ h9 => h9) rfl d_NU_transition_27 ?_
  refine va_get (D := (dC, dI)) (ci := 1) (v := .int 0) (C := "NetUnfolder$Net") (T := T_Ne) (N := 4) hx hb ht in_Ne hown hK hP 4 rfl rfl 2 (by decide) (ht _ wd_1_39) (fun _ h9 => h9) rfl d_NU_transition_30 ?_
  refine lv_bipush (v := 8) hx hb d_NU_transition_33 (by decide) ?_
  refine lv_icmp_lt (tgt := 46) hx hb d_NU_transition_35 (by decide) (fun _ => ?_) (fun h => (h (by decide)).elim)
  refine lv_aload_n hx hb d_NU_transition_46 rfl (lv_at hl 0 rfl) ?_
  have hPc := hP.sub (ws' := [(a0, .inr (0, [.ref a1, .ref a2, .ref a3, .ref a4, .ref a5])), (a2, .inr (2, [.int 0, .ref a8, .ref a9, .ref a10, .ref a11, .ref a12, .int 0, .ref a13, .ref a14, .ref a15, .ref a16, .ref a17, .int 0, .int 0])), (a12, .inl (cL, 8, .inr (.inl (fun _ => 0)))), (a3, .inr (3, [.ref a18, .int (-1)]))]) [0, 1, 2, 3] rfl
  have hDc := hD.sub (ws' := [(a0, .inr (0, [.ref a1, .ref a2, .ref a3, .ref a4, .ref a5])), (a2, .inr (2, [.int 0, .ref a8, .ref a9, .ref a10, .ref a11, .ref a12, .int 0, .ref a13, .ref a14, .ref a15, .ref a16, .ref a17, .int 0, .int 0])), (a12, .inl (cL, 8, .inr (.inl (fun _ => 0)))), (a3, .inr (3, [.ref a18, .int (-1)]))]) [0, 1, 2, 3] (by decide) rfl
  have hFc := va_free (wc := [(a0, .inr (0, [.ref a1, .ref a2, .ref a3, .ref a4, .ref a5])), (a2, .inr (2, [.int 0, .ref a8, .ref a9, .ref a10, .ref a11, .ref a12, .int 0, .ref a13, .ref a14, .ref a15, .ref a16, .ref a17, .int 0, .int 0])), (a12, .inl (cL, 8, .inr (.inl (fun _ => 0)))), (a3, .inr (3, [.ref a18, .int (-1)]))]) hD hS hA [0, 1, 2, 3] rfl
  refine va_callv (va_runV (C := "NetUnfolder") (As := []) (rest := []) ⟨hx, hb, hml, hown, ht⟩ (c_NU_drop l dC dI cI cL cZ _ a0 a2 a12 a3 a1 a4 a5 a8 a9 a10 a11 a13 a14 a15 a16 a17 a18 ) (cwV 0 ht (good_V wd_2_56 wd_2_58 ws_NU_dropPrefixAndWay wd_1_1 wd_2_59) rfl rfl rfl (by decide +kernel) ⟨Nat.le_of_ble_eq_true rfl, Nat.le_of_ble_eq_true rfl⟩) ⟨fun a U g mk q => by obtain ⟨q0, q1, qP, qK, qD, qN⟩ := q; exact ⟨q0, q1, qP, va_K.moved (u := U) (U := U.calling g mk a) (Vm.Alike.refl U.vm) qK, qD, NwA.same (u := U) rfl qN⟩, (va_recv (q0 := 0) (ci := 0) hK hP rfl rfl), fun U hU hW => ⟨rfl, by rw [hU], by rw [hU]; exact hPc, va_K.moved hW.alike hK, hDc.weaken (fun _ _ _ _ => trivial), NwA.warm hW hN⟩⟩ rfl rfl hl.1 rfl (lv_room (Nat.le_of_ble_eq_true rfl)) d_NU_transition_47 ⟨Nat.le_of_ble_eq_true rfl, Nat.le_of_ble_eq_true rfl⟩) hS (fun q _ h => hFc q h) hFc (fun u t H5 locs ht9 hvm hw6 hB hz1 hk1 hSn => ?_)
  obtain ⟨hP1, hD1⟩ := hB
  rw [ht9] at hP1
  obtain ⟨hPn, hDn⟩ := va_join (wr := [(a1, .inr (1, [.ref a6, .ref a7, .int 0, .int 0])), (a6, .inl (cI, 8, .inl (fun _ => 0))), (a7, .inl (cI, 8, .inl (fun _ => 0)))]) (w1 := [(a0, .inr (0, [.ref a1, .ref a2, .ref a3, .ref a4, .ref a5])), (a2, .inr (2, [.int 0, .ref a8, .ref a9, .ref a10, .ref a11, .ref a12, .int 0, .ref a13, .ref a14, .ref a15, .ref a16, .ref a17, .int 0, .int 0])), (a12, .inl (cL, 8, .inr (.inl (fun _ => 0)))), (a3, .inr (3, [.ref a18, .int (-1)]))]) hP hD [0, 1, 2, 3] [4, 5, 6] rfl rfl (by decide) (by decide) hk1 hFc hP1 hD1
  replace hP : va_P (dC, dI) clA [(a1, .inr (1, [.ref a6, .ref a7, .int 0, .int 0])), (a6, .inl (cI, 8, .inl (fun _ => 0))), (a7, .inl (cI, 8, .inl (fun _ => 0))), (a0, .inr (0, [.ref a1, .ref a2, .ref a3, .ref a4, .ref a5])), (a2, .inr (2, [.int 0, .ref a8, .ref a9, .ref a10, .ref a11, .ref a12, .int 0, .ref a13, .ref a14, .ref a15, .ref a16, .ref a17, .int 0, .int 0])), (a12, .inl (cL, 8, .inr (.inl (fun _ => 0)))), (a3, .inr (3, [.ref a18, .int (-1)]))] H5 := hPn
  replace hD : va_D A [(a1, .inr (1, [.ref a6, .ref a7, .int 0, .int 0])), (a6, .inl (cI, 8, .inl (fun _ => 0))), (a7, .inl (cI, 8, .inl (fun _ => 0))), (a0, .inr (0, [.ref a1, .ref a2, .ref a3, .ref a4, .ref a5])), (a2, .inr (2, [.int 0, .ref a8, .ref a9, .ref a10, .ref a11, .ref a12, .int 0, .ref a13, .ref a14, .ref a15, .ref a16, .ref a17, .int 0, .int 0])), (a12, .inl (cL, 8, .inr (.inl (fun _ => 0)))), (a3, .inr (3, [.ref a18, .int (-1)]))] := hDn
  replace hS := hSn
  clear hPn hDn hSn
  clear hPc hDc hFc hP1 hD1 hk1 hz1 ht9 hvm
  refine W.cs (cells' := 0) (slots' := 0) rfl rfl ?_
  refine lv_aload_n hx hb d_NU_transition_50 rfl (lv_at hl 0 rfl) ?_
  refine va_get (D := (dC, dI)) (ci := 0) (v := .ref a1) (C := "NetUnfolder") (T := T_NU) (N := 5) hx hb ht in_NU hown hK hP 3 rfl rfl 0 (by decide) (ht _ wd_2_36) (fun _ h9 => h9) rfl d_NU_transition_51 ?_
  refine lv_iload_n hx hb d_NU_transition_54 rfl (lv_at hl 1 rfl) ?_
  refine lv_iload_n hx hb d_NU_transition_55 rfl (lv_at hl 2 rfl) ?_
  have hPc := hP.sub (ws' := [(a1, .inr (1, [.ref a6, .ref a7, .int 0, .int 0])), (a6, .inl (cI, 8, .inl (fun _ => 0))), (a7, .inl (cI, 8, .inl (fun _ => 0)))]) [0, 1, 2] rfl
  have hDc := hD.sub (ws' := [(a1, .inr (1, [.ref a6, .ref a7, .int 0, .int 0])), (a6, .inl (cI, 8, .inl (fun _ => 0))), (a7, .inl (cI, 8, .inl (fun _ => 0)))]) [0, 1, 2] (by decide) rfl
  have hFc := va_free (wc := [(a1, .inr (1, [.ref a6, .ref a7, .int 0, .int 0])), (a6, .inl (cI, 8, .inl (fun _ => 0))), (a7, .inl (cI, 8, .inl (fun _ => 0)))]) hD hS hA [0, 1, 2] rfl
  refine va_calli (va_runV (C := "NetUnfolder$Net") (As := [.int k0, .int k1]) (rest := []) ⟨hx, hb, hml, hown, ht⟩ (c_Ne_add l dC dI cI cL cZ _ a1 a6 a7 k0 k1 ) (cwV 2 ht (good_V wd_3_90 wd_3_91 wd_3_92 wd_1_2 wd_3_93) rfl rfl rfl (by decide +kernel) ⟨Nat.le_of_ble_eq_true rfl, Nat.le_of_ble_eq_true rfl⟩) ⟨fun a U g mk q => by obtain ⟨q0, q1, qP, qK, qD, qN⟩ := q; exact ⟨q0, q1, qP, va_K.moved (u := U) (U := U.calling g mk a) (Vm.Alike.refl U.vm) qK, qD, NwA.same (u := U) rfl qN⟩, (va_recv (q0 := 0) (ci := 1) hK hP rfl rfl), fun U hU hW => ⟨rfl, by rw [hU], by rw [hU]; exact hPc, va_K.moved hW.alike hK, hDc.weaken (fun _ _ _ _ => trivial), NwA.warm hW hN⟩⟩ rfl rfl hl.1 rfl (lv_room (Nat.le_of_ble_eq_true rfl)) d_NU_transition_56 ⟨Nat.le_of_ble_eq_true rfl, Nat.le_of_ble_eq_true rfl⟩) hS (fun q _ h => hFc q h) hFc (fun r9 u t H7 locs ht9 hvm hw8 hB hz1 hk1 hSn => ?_)
  obtain ⟨hP1, hD1⟩ := hB
  rw [ht9] at hP1
  obtain ⟨hPn, hDn⟩ := va_join (wr := [(a0, .inr (0, [.ref a1, .ref a2, .ref a3, .ref a4, .ref a5])), (a2, .inr (2, [.int 0, .ref a8, .ref a9, .ref a10, .ref a11, .ref a12, .int 0, .ref a13, .ref a14, .ref a15, .ref a16, .ref a17, .int 0, .int 0])), (a12, .inl (cL, 8, .inr (.inl (fun _ => 0)))), (a3, .inr (3, [.ref a18, .int (-1)]))]) (w1 := [(a1, .inr (1, [.ref a6, .ref a7, .int 1, .int 0])), (a6, .inl (cI, 8, .inl (upd (fun _ => 0) (0 : Int32).toNatClampNeg k0))), (a7, .inl (cI, 8, .inl (upd (fun _ => 0) (0 : Int32).toNatClampNeg k1)))]) hP hD [0, 1, 2] [3, 4, 5, 6] rfl rfl (by decide) (by decide) hk1 hFc hP1 hD1
  replace hP : va_P (dC, dI) clA [(a0, .inr (0, [.ref a1, .ref a2, .ref a3, .ref a4, .ref a5])), (a2, .inr (2, [.int 0, .ref a8, .ref a9, .ref a10, .ref a11, .ref a12, .int 0, .ref a13, .ref a14, .ref a15, .ref a16, .ref a17, .int 0, .int 0])), (a12, .inl (cL, 8, .inr (.inl (fun _ => 0)))), (a3, .inr (3, [.ref a18, .int (-1)])), (a1, .inr (1, [.ref a6, .ref a7, .int 1, .int 0])), (a6, .inl (cI, 8, .inl (upd (fun _ => 0) (0 : Int32).toNatClampNeg k0))), (a7, .inl (cI, 8, .inl (upd (fun _ => 0) (0 : Int32).toNatClampNeg k1)))] H7 := hPn
  replace hD : va_D A [(a0, .inr (0, [.ref a1, .ref a2, .ref a3, .ref a4, .ref a5])), (a2, .inr (2, [.int 0, .ref a8, .ref a9, .ref a10, .ref a11, .ref a12, .int 0, .ref a13, .ref a14, .ref a15, .ref a16, .ref a17, .int 0, .int 0])), (a12, .inl (cL, 8, .inr (.inl (fun _ => 0)))), (a3, .inr (3, [.ref a18, .int (-1)])), (a1, .inr (1, [.ref a6, .ref a7, .int 1, .int 0])), (a6, .inl (cI, 8, .inl (upd (fun _ => 0) (0 : Int32).toNatClampNeg k0))), (a7, .inl (cI, 8, .inl (upd (fun _ => 0) (0 : Int32).toNatClampNeg k1)))] := hDn
  replace hS := hSn
  clear hPn hDn hSn
  clear hPc hDc hFc hP1 hD1 hk1 hz1 ht9 hvm
  refine W.cs (cells' := 0) (slots' := 0) rfl rfl ?_
  subst hw8
  have hP9 := hP.sub (ws' := [(a0, .inr (0, [.ref a1, .ref a2, .ref a3, .ref a4, .ref a5])), (a2, .inr (2, [.int 0, .ref a8, .ref a9, .ref a10, .ref a11, .ref a12, .int 0, .ref a13, .ref a14, .ref a15, .ref a16, .ref a17, .int 0, .int 0])), (a12, .inl (cL, 8, .inr (.inl (fun _ => 0)))), (a3, .inr (3, [.ref a18, .int (-1)])), (a1, .inr (1, [.ref a6, .ref a7, .int 1, .int 0])), (a6, .inl (cI, 8, .inl (upd (fun _ => 0) (0 : Int32).toNatClampNeg k0))), (a7, .inl (cI, 8, .inl (upd (fun _ => 0) (0 : Int32).toNatClampNeg k1)))]) [0, 1, 2, 3, 4, 5, 6] rfl
  have hD9 := hD.sub (ws' := [(a0, .inr (0, [.ref a1, .ref a2, .ref a3, .ref a4, .ref a5])), (a2, .inr (2, [.int 0, .ref a8, .ref a9, .ref a10, .ref a11, .ref a12, .int 0, .ref a13, .ref a14, .ref a15, .ref a16, .ref a17, .int 0, .int 0])), (a12, .inl (cL, 8, .inr (.inl (fun _ => 0)))), (a3, .inr (3, [.ref a18, .int (-1)])), (a1, .inr (1, [.ref a6, .ref a7, .int 1, .int 0])), (a6, .inl (cI, 8, .inl (upd (fun _ => 0) (0 : Int32).toNatClampNeg k0))), (a7, .inl (cI, 8, .inl (upd (fun _ => 0) (0 : Int32).toNatClampNeg k1)))]) [0, 1, 2, 3, 4, 5, 6] (by decide) rfl
  exact W.iret (v := 0) hx hb hr (fun t ht9 hW => ⟨⟨0, (), rfl, rfl, by rw [ht9]; exact hP9, hD9⟩, hS.F ht9⟩) hS.2.2 d_NU_transition_59

set_option maxHeartbeats 4000000 in
set_option maxRecDepth 100000 in
theorem c_NU_first_ok (l : Launch) (dC : Nat → ClassId) (dI : Nat → Nat → Nat) (cI cL cZ : ClassId) (sz : Nat) (a0 : Nat) (a2 : Nat) (a12 : Nat) (a3 : Nat) (a1 : Nat) (a4 : Nat) (a5 : Nat) (a8 : Nat) (a9 : Nat) (a10 : Nat) (a11 : Nat) (a13 : Nat) (a14 : Nat) (a15 : Nat) (a16 : Nat) (a17 : Nat) (a18 : Nat) (a6 : Nat) (a7 : Nat) (k0 : Int32) (h1 : ¬ k0 < 0) (h2 : ¬ 255 < k0) : Met l y_NU_first (Cond.code y_NU_first prog_1_method_3_code 2 none :: wsA) { frames := 3, cells := 0, slots := 0, locals := 64 } (va_Pc [.ref a0, .int k0] (fun U => U.heap.size = sz ∧ va_P (dC, dI) clA [(a0, .inr (0, [.ref a1, .ref a2, .ref a3, .ref a4, .ref a5])), (a2, .inr (2, [.int 0, .ref a8, .ref a9, .ref a10, .ref a11, .ref a12, .int 0, .ref a13, .ref a14, .ref a15, .ref a16, .ref a17, .int 0, .int 0])), (a12, .inl (cL, 8, .inr (.inl (fun _ => 0)))), (a3, .inr (3, [.ref a18, .int (-1)])), (a1, .inr (1, [.ref a6, .ref a7, .int 0, .int 0]))] U.heap ∧ va_K (dC, dI) clA [(cI, .int), (cL, .long), (cZ, .boolean)] U ∧ va_D (fun _ => True) [(a0, .inr (0, [.ref a1, .ref a2, .ref a3, .ref a4, .ref a5])), (a2, .inr (2, [.int 0, .ref a8, .ref a9, .ref a10, .ref a11, .ref a12, .int 0, .ref a13, .ref a14, .ref a15, .ref a16, .ref a17, .int 0, .int 0])), (a12, .inl (cL, 8, .inr (.inl (fun _ => 0)))), (a3, .inr (3, [.ref a18, .int (-1)])), (a1, .inr (1, [.ref a6, .ref a7, .int 0, .int 0]))] ∧ NwA U)) (va_Qv (fun _ : Unit => True) (fun _ t => va_P (dC, dI) clA [(a1, .inr (1, [.ref a6, .ref a7, .int 0, .int k0])), (a0, .inr (0, [.ref a1, .ref a2, .ref a3, .ref a4, .ref a5])), (a2, .inr (2, [.int 0, .ref a8, .ref a9, .ref a10, .ref a11, .ref a12, .int 0, .ref a13, .ref a14, .ref a15, .ref a16, .ref a17, .int 0, .int 0])), (a12, .inl (cL, 8, .inr (.inl (fun _ => 0)))), (a3, .inr (3, [.ref a18, .int (-1)]))] t.heap ∧ va_D (va_A [(a0, .inr (0, [.ref a1, .ref a2, .ref a3, .ref a4, .ref a5])), (a2, .inr (2, [.int 0, .ref a8, .ref a9, .ref a10, .ref a11, .ref a12, .int 0, .ref a13, .ref a14, .ref a15, .ref a16, .ref a17, .int 0, .int 0])), (a12, .inl (cL, 8, .inr (.inl (fun _ => 0)))), (a3, .inr (3, [.ref a18, .int (-1)])), (a1, .inr (1, [.ref a6, .ref a7, .int 0, .int 0]))] sz) [(a1, .inr (1, [.ref a6, .ref a7, .int 0, .int k0])), (a0, .inr (0, [.ref a1, .ref a2, .ref a3, .ref a4, .ref a5])), (a2, .inr (2, [.int 0, .ref a8, .ref a9, .ref a10, .ref a11, .ref a12, .int 0, .ref a13, .ref a14, .ref a15, .ref a16, .ref a17, .int 0, .int 0])), (a12, .inl (cL, 8, .inr (.inl (fun _ => 0)))), (a3, .inr (3, [.ref a18, .int (-1)]))]) (va_A [(a0, .inr (0, [.ref a1, .ref a2, .ref a3, .ref a4, .ref a5])), (a2, .inr (2, [.int 0, .ref a8, .ref a9, .ref a10, .ref a11, .ref a12, .int 0, .ref a13, .ref a14, .ref a15, .ref a16, .ref a17, .int 0, .int 0])), (a12, .inl (cL, 8, .inr (.inl (fun _ => 0)))), (a3, .inr (3, [.ref a18, .int (-1)])), (a1, .inr (1, [.ref a6, .ref a7, .int 0, .int 0]))] sz)) 0 0 (va_A [(a0, .inr (0, [.ref a1, .ref a2, .ref a3, .ref a4, .ref a5])), (a2, .inr (2, [.int 0, .ref a8, .ref a9, .ref a10, .ref a11, .ref a12, .int 0, .ref a13, .ref a14, .ref a15, .ref a16, .ref a17, .int 0, .int 0])), (a12, .inl (cL, 8, .inr (.inl (fun _ => 0)))), (a3, .inr (3, [.ref a18, .int (-1)])), (a1, .inr (1, [.ref a6, .ref a7, .int 0, .int 0]))] sz) := by
  refine Met.ofW (cc := prog_1_method_3_code) (maxL := 2) (ret := none) (by decide) rfl ?_
  intro p e s m args below meth c s₁ B hml hv
  obtain ⟨rfl, hsz, hP, hK, hD0, hN⟩ := hv
  have hx := B.exec
  have hb := B.bytes
  have hr := B.returns
  have ht : ∀ w ∈ wsA, w.before _ s = true := fun w h => atoms_spec (ws := (Cond.code y_NU_first prog_1_method_3_code 2 none :: wsA)) B.pre w (List.mem_cons_of_mem _ h)
  have hown : s.vm.findClass "NetUnfolder" = some m.cls := findClass_of_methodNamed B.named
  have hlocks := B.notSynchronized
  subst hsz
  have hD := hD0.self (sz := s.heap.size)
  generalize hAe : va_A [(a0, .inr (0, [.ref a1, .ref a2, .ref a3, .ref a4, .ref a5])), (a2, .inr (2, [.int 0, .ref a8, .ref a9, .ref a10, .ref a11, .ref a12, .int 0, .ref a13, .ref a14, .ref a15, .ref a16, .ref a17, .int 0, .int 0])), (a12, .inl (cL, 8, .inr (.inl (fun _ => 0)))), (a3, .inr (3, [.ref a18, .int (-1)])), (a1, .inr (1, [.ref a6, .ref a7, .int 0, .int 0]))] s.heap.size = A at hD ⊢
  have hA : ∀ q : Nat, s.heap.size ≤ q → A q := fun q h => by rw [← hAe]; exact Or.inr h
  have hS : va_S A s.heap s.heap [] := va_S.rf
  have hl := lv_entry ([.ref a0, .int k0]) (n := 2) (Nat.le_of_ble_eq_true rfl)
  rw [lg_entry_eq]
  generalize (lg_sl ([.ref a0, .int k0]) ++ List.replicate (2 - (lg_sl ([.ref a0, .int k0])).length) Slot.unset).toArray = ls at hl ⊢
  replace hl : lv_has ls 2 [(0, .ref a0), (1, .int k0)] := hl
  refine lv_iload_n hx hb d_NU_first_0 rfl (lv_at hl 1 rfl) ?_
  have hPc : va_P (dC, dI) clA [] _ := pu_P (H := s.heap)
  have hDc : va_D (fun _ => True) [] := pu_D
  have hFc := pu_free hS hA
  refine va_calli (va_runS (As := [.int k0]) (rest := []) ⟨hx, hb, hml, hown, ht⟩ (c_NU_isMarking_ok l dC dI cI cL cZ _ k0 h1 h2) (va_cwS 1 ht (good_S wd_3_10 wd_3_11 wd_1_1 wd_3_12) rfl rfl rfl (by decide +kernel) ⟨Nat.le_of_ble_eq_true rfl, Nat.le_of_ble_eq_true rfl⟩) ⟨fun a U g mk q => by obtain ⟨q0, q1, qP, qK, qD, qN⟩ := q; exact ⟨q0, q1, qP, va_K.moved (u := U) (U := U.calling g mk a) (Vm.Alike.refl U.vm) qK, qD, NwA.same (u := U) rfl qN⟩, fun U hU hW => ⟨rfl, by rw [hU], by rw [hU]; exact hPc, va_K.moved hW.alike hK, hDc.weaken (fun _ _ _ _ => trivial), NwA.warm hW hN⟩⟩ rfl rfl hl.1 rfl (lv_room (Nat.le_of_ble_eq_true rfl)) d_NU_first_1 ⟨Nat.le_of_ble_eq_true rfl, Nat.le_of_ble_eq_true rfl⟩) hS (fun q _ h => hFc q h) hFc (fun r9 u t H1 locs ht9 hvm hw2 hB hz1 hk1 hSn => ?_)
  replace hP : va_P (dC, dI) clA [(a0, .inr (0, [.ref a1, .ref a2, .ref a3, .ref a4, .ref a5])), (a2, .inr (2, [.int 0, .ref a8, .ref a9, .ref a10, .ref a11, .ref a12, .int 0, .ref a13, .ref a14, .ref a15, .ref a16, .ref a17, .int 0, .int 0])), (a12, .inl (cL, 8, .inr (.inl (fun _ => 0)))), (a3, .inr (3, [.ref a18, .int (-1)])), (a1, .inr (1, [.ref a6, .ref a7, .int 0, .int 0]))] H1 := pu_keep hP hk1
  replace hS := hSn
  clear hSn hPc hDc hFc hk1 hz1 ht9 hvm hB
  refine W.cs (cells' := 0) (slots' := 0) rfl rfl ?_
  subst hw2
  refine lv_if_ne (tgt := 15) hx hb d_NU_first_4 (by decide) (fun _ => ?_) (fun h => absurd h (by decide))
  refine lv_aload_n hx hb d_NU_first_15 rfl (lv_at hl 0 rfl) ?_
  have hPc := hP.sub (ws' := [(a0, .inr (0, [.ref a1, .ref a2, .ref a3, .ref a4, .ref a5])), (a2, .inr (2, [.int 0, .ref a8, .ref a9, .ref a10, .ref a11, .ref a12, .int 0, .ref a13, .ref a14, .ref a15, .ref a16, .ref a17, .int 0, .int 0])), (a12, .inl (cL, 8, .inr (.inl (fun _ => 0)))), (a3, .inr (3, [.ref a18, .int (-1)]))]) [0, 1, 2, 3] rfl
  have hDc := hD.sub (ws' := [(a0, .inr (0, [.ref a1, .ref a2, .ref a3, .ref a4, .ref a5])), (a2, .inr (2, [.int 0, .ref a8, .ref a9, .ref a10, .ref a11, .ref a12, .int 0, .ref a13, .ref a14, .ref a15, .ref a16, .ref a17, .int 0, .int 0])), (a12, .inl (cL, 8, .inr (.inl (fun _ => 0)))), (a3, .inr (3, [.ref a18, .int (-1)]))]) [0, 1, 2, 3] (by decide) rfl
  have hFc := va_free (wc := [(a0, .inr (0, [.ref a1, .ref a2, .ref a3, .ref a4, .ref a5])), (a2, .inr (2, [.int 0, .ref a8, .ref a9, .ref a10, .ref a11, .ref a12, .int 0, .ref a13, .ref a14, .ref a15, .ref a16, .ref a17, .int 0, .int 0])), (a12, .inl (cL, 8, .inr (.inl (fun _ => 0)))), (a3, .inr (3, [.ref a18, .int (-1)]))]) hD hS hA [0, 1, 2, 3] rfl
  refine va_callv (va_runV (C := "NetUnfolder") (As := []) (rest := []) ⟨hx, hb, hml, hown, ht⟩ (c_NU_drop l dC dI cI cL cZ _ a0 a2 a12 a3 a1 a4 a5 a8 a9 a10 a11 a13 a14 a15 a16 a17 a18 ) (cwV 0 ht (good_V wd_2_56 wd_2_58 ws_NU_dropPrefixAndWay wd_1_1 wd_2_59) rfl rfl rfl (by decide +kernel) ⟨Nat.le_of_ble_eq_true rfl, Nat.le_of_ble_eq_true rfl⟩) ⟨fun a U g mk q => by obtain ⟨q0, q1, qP, qK, qD, qN⟩ := q; exact ⟨q0, q1, qP, va_K.moved (u := U) (U := U.calling g mk a) (Vm.Alike.refl U.vm) qK, qD, NwA.same (u := U) rfl qN⟩, (va_recv (q0 := 0) (ci := 0) hK hP rfl rfl), fun U hU hW => ⟨rfl, by rw [hU], by rw [hU]; exact hPc, va_K.moved hW.alike hK, hDc.weaken (fun _ _ _ _ => trivial), NwA.warm hW hN⟩⟩ rfl rfl hl.1 rfl (lv_room (Nat.le_of_ble_eq_true rfl)) d_NU_first_16 ⟨Nat.le_of_ble_eq_true rfl, Nat.le_of_ble_eq_true rfl⟩) hS (fun q _ h => hFc q h) hFc (fun u t H3 locs ht9 hvm hw4 hB hz1 hk1 hSn => ?_)
  obtain ⟨hP1, hD1⟩ := hB
  rw [ht9] at hP1
  obtain ⟨hPn, hDn⟩ := va_join (wr := [(a1, .inr (1, [.ref a6, .ref a7, .int 0, .int 0]))]) (w1 := [(a0, .inr (0, [.ref a1, .ref a2, .ref a3, .ref a4, .ref a5])), (a2, .inr (2, [.int 0, .ref a8, .ref a9, .ref a10, .ref a11, .ref a12, .int 0, .ref a13, .ref a14, .ref a15, .ref a16, .ref a17, .int 0, .int 0])), (a12, .inl (cL, 8, .inr (.inl (fun _ => 0)))), (a3, .inr (3, [.ref a18, .int (-1)]))]) hP hD [0, 1, 2, 3] [4] rfl rfl (by decide) (by decide) hk1 hFc hP1 hD1
  replace hP : va_P (dC, dI) clA [(a1, .inr (1, [.ref a6, .ref a7, .int 0, .int 0])), (a0, .inr (0, [.ref a1, .ref a2, .ref a3, .ref a4, .ref a5])), (a2, .inr (2, [.int 0, .ref a8, .ref a9, .ref a10, .ref a11, .ref a12, .int 0, .ref a13, .ref a14, .ref a15, .ref a16, .ref a17, .int 0, .int 0])), (a12, .inl (cL, 8, .inr (.inl (fun _ => 0)))), (a3, .inr (3, [.ref a18, .int (-1)]))] H3 := hPn
  replace hD : va_D A [(a1, .inr (1, [.ref a6, .ref a7, .int 0, .int 0])), (a0, .inr (0, [.ref a1, .ref a2, .ref a3, .ref a4, .ref a5])), (a2, .inr (2, [.int 0, .ref a8, .ref a9, .ref a10, .ref a11, .ref a12, .int 0, .ref a13, .ref a14, .ref a15, .ref a16, .ref a17, .int 0, .int 0])), (a12, .inl (cL, 8, .inr (.inl (fun _ => 0)))), (a3, .inr (3, [.ref a18, .int (-1)]))] := hDn
  replace hS := hSn
  clear hPn hDn hSn
  clear hPc hDc hFc hP1 hD1 hk1 hz1 ht9 hvm
  refine W.cs (cells' := 0) (slots' := 0) rfl rfl ?_
  refine lv_aload_n hx hb d_NU_first_19 rfl (lv_at hl 0 rfl) ?_
  refine va_get (D := (dC, dI)) (ci := 0) (v := .ref a1) (C := "NetUnfolder") (T := T_NU) (N := 5) hx hb ht in_NU hown hK hP 1 rfl rfl 0 (by decide) (ht _ wd_2_36) (fun _ h9 => h9) rfl d_NU_first_20 ?_
  refine lv_iload_n hx hb d_NU_first_23 rfl (lv_at hl 1 rfl) ?_
  refine va_put (D := (dC, dI)) (ci := 1) (v := .int k0) (ty := .int) (C := "NetUnfolder$Net") (T := T_Ne) (N := 4) hx hb ht in_Ne ty_Ne ok_Ne nm_Ne hown hK hP hD hS 0 rfl rfl 3 (by decide) (ht _ wd_1_44) (fun _ h9 => h9) rfl (by decide +kernel) rfl rfl (Nat.le_of_ble_eq_true rfl) d_NU_first_24 (fun H5 locs hPn hDn hSn => ?_)
  replace hP : va_P (dC, dI) clA [(a1, .inr (1, [.ref a6, .ref a7, .int 0, .int k0])), (a0, .inr (0, [.ref a1, .ref a2, .ref a3, .ref a4, .ref a5])), (a2, .inr (2, [.int 0, .ref a8, .ref a9, .ref a10, .ref a11, .ref a12, .int 0, .ref a13, .ref a14, .ref a15, .ref a16, .ref a17, .int 0, .int 0])), (a12, .inl (cL, 8, .inr (.inl (fun _ => 0)))), (a3, .inr (3, [.ref a18, .int (-1)]))] H5 := hPn
  replace hD : va_D A [(a1, .inr (1, [.ref a6, .ref a7, .int 0, .int k0])), (a0, .inr (0, [.ref a1, .ref a2, .ref a3, .ref a4, .ref a5])), (a2, .inr (2, [.int 0, .ref a8, .ref a9, .ref a10, .ref a11, .ref a12, .int 0, .ref a13, .ref a14, .ref a15, .ref a16, .ref a17, .int 0, .int 0])), (a12, .inl (cL, 8, .inr (.inl (fun _ => 0)))), (a3, .inr (3, [.ref a18, .int (-1)]))] := hDn
  replace hS := hSn
  clear hPn hDn hSn
  have hP9 := hP.sub (ws' := [(a1, .inr (1, [.ref a6, .ref a7, .int 0, .int k0])), (a0, .inr (0, [.ref a1, .ref a2, .ref a3, .ref a4, .ref a5])), (a2, .inr (2, [.int 0, .ref a8, .ref a9, .ref a10, .ref a11, .ref a12, .int 0, .ref a13, .ref a14, .ref a15, .ref a16, .ref a17, .int 0, .int 0])), (a12, .inl (cL, 8, .inr (.inl (fun _ => 0)))), (a3, .inr (3, [.ref a18, .int (-1)]))]) [0, 1, 2, 3, 4] rfl
  have hD9 := hD.sub (ws' := [(a1, .inr (1, [.ref a6, .ref a7, .int 0, .int k0])), (a0, .inr (0, [.ref a1, .ref a2, .ref a3, .ref a4, .ref a5])), (a2, .inr (2, [.int 0, .ref a8, .ref a9, .ref a10, .ref a11, .ref a12, .int 0, .ref a13, .ref a14, .ref a15, .ref a16, .ref a17, .int 0, .int 0])), (a12, .inl (cL, 8, .inr (.inl (fun _ => 0)))), (a3, .inr (3, [.ref a18, .int (-1)]))]) [0, 1, 2, 3, 4] (by decide) rfl
  exact W.vret hx hb hr (fun t ht9 hW => ⟨⟨(), rfl, trivial, by rw [ht9]; exact hP9, hD9⟩, hS.F ht9⟩) hS.2.2 d_NU_first_27

set_option maxHeartbeats 4000000 in
set_option maxRecDepth 100000 in
theorem c_Wa_step (l : Launch) (dC : Nat → ClassId) (dI : Nat → Nat → Nat) (cI cL cZ : ClassId) (sz : Nat) (a3 : Nat) (a18 : Nat) (k0 : Int32) : Met l y_Wa_step (Cond.code y_Wa_step prog_9_method_5_code 2 (some .int) :: wsA) { frames := 0, cells := 0, slots := 0, locals := 0 } (va_Pc [.ref a3, .int k0] (fun U => U.heap.size = sz ∧ va_P (dC, dI) clA [(a3, .inr (3, [.ref a18, .int (-1)]))] U.heap ∧ va_K (dC, dI) clA [(cI, .int), (cL, .long), (cZ, .boolean)] U ∧ va_D (fun _ => True) [(a3, .inr (3, [.ref a18, .int (-1)]))] ∧ NwA U)) (va_Qi (fun r (_ : Unit) => r = (-1)) (fun _ t => va_P (dC, dI) clA [(a3, .inr (3, [.ref a18, .int (-1)]))] t.heap ∧ va_D (va_A [(a3, .inr (3, [.ref a18, .int (-1)]))] sz) [(a3, .inr (3, [.ref a18, .int (-1)]))]) (va_A [(a3, .inr (3, [.ref a18, .int (-1)]))] sz)) 0 0 (va_A [(a3, .inr (3, [.ref a18, .int (-1)]))] sz) := by
  refine Met.ofW (cc := prog_9_method_5_code) (maxL := 2) (ret := (some .int)) (by decide) rfl ?_
  intro p e s m args below meth c s₁ B hml hv
  obtain ⟨rfl, hsz, hP, hK, hD0, hN⟩ := hv
  have hx := B.exec
  have hb := B.bytes
  have hr := B.returns
  have ht : ∀ w ∈ wsA, w.before _ s = true := fun w h => atoms_spec (ws := (Cond.code y_Wa_step prog_9_method_5_code 2 (some .int) :: wsA)) B.pre w (List.mem_cons_of_mem _ h)
  have hown : s.vm.findClass "NetUnfolder$Way" = some m.cls := findClass_of_methodNamed B.named
  have hlocks := B.notSynchronized
  subst hsz
  have hD := hD0.self (sz := s.heap.size)
  generalize hAe : va_A [(a3, .inr (3, [.ref a18, .int (-1)]))] s.heap.size = A at hD ⊢
  have hA : ∀ q : Nat, s.heap.size ≤ q → A q := fun q h => by rw [← hAe]; exact Or.inr h
  have hS : va_S A s.heap s.heap [] := va_S.rf
  have hl := lv_entry ([.ref a3, .int k0]) (n := 2) (Nat.le_of_ble_eq_true rfl)
  rw [lg_entry_eq]
  generalize (lg_sl ([.ref a3, .int k0]) ++ List.replicate (2 - (lg_sl ([.ref a3, .int k0])).length) Slot.unset).toArray = ls at hl ⊢
  replace hl : lv_has ls 2 [(0, .ref a3), (1, .int k0)] := hl
  refine lv_iload_n hx hb d_Wa_step_0 rfl (lv_at hl 1 rfl) ?_
  refine lv_if_lt (tgt := 21) hx hb d_Wa_step_1 (by decide) (fun hb1 => ?_) (fun hb1 => ?_)
  · skip
    refine lv_iconst (v := (-1)) hx hb d_Wa_step_21 (by decide) ?_
    have hP9 := hP.sub (ws' := [(a3, .inr (3, [.ref a18, .int (-1)]))]) [0] rfl
    have hD9 := hD.sub (ws' := [(a3, .inr (3, [.ref a18, .int (-1)]))]) [0] (by decide) rfl
    exact W.iret (v := (-1)) hx hb hr (fun t ht9 hW => ⟨⟨(-1), (), rfl, rfl, by rw [ht9]; exact hP9, hD9⟩, hS.F ht9⟩) hS.2.2 d_Wa_step_22
  · skip
    refine lv_iload_n hx hb d_Wa_step_4 rfl (lv_at hl 1 rfl) ?_
    refine lv_aload_n hx hb d_Wa_step_5 rfl (lv_at hl 0 rfl) ?_
    refine va_get (D := (dC, dI)) (ci := 3) (v := .int (-1)) (C := "NetUnfolder$Way") (T := T_Wa) (N := 2) hx hb ht in_Wa hown hK hP 0 rfl rfl 1 (by decide) (ht _ wd_1_144) (fun _ h9 => h9) rfl d_Wa_step_6 ?_
    refine lv_icmp_ge (tgt := 21) hx hb d_Wa_step_9 (by decide) (fun _ => ?_) (fun h9 => (by exfalso; have ehb1 := fa_nlt (k := 0) (by decide) hb1; have eh9 := fb_nle (k := -1) (by decide) h9; omega))
    refine lv_iconst (v := (-1)) hx hb d_Wa_step_21 (by decide) ?_
    have hP9 := hP.sub (ws' := [(a3, .inr (3, [.ref a18, .int (-1)]))]) [0] rfl
    have hD9 := hD.sub (ws' := [(a3, .inr (3, [.ref a18, .int (-1)]))]) [0] (by decide) rfl
    exact W.iret (v := (-1)) hx hb hr (fun t ht9 hW => ⟨⟨(-1), (), rfl, rfl, by rw [ht9]; exact hP9, hD9⟩, hS.F ht9⟩) hS.2.2 d_Wa_step_22

set_option maxHeartbeats 4000000 in
set_option maxRecDepth 100000 in
theorem c_NU_way (l : Launch) (dC : Nat → ClassId) (dI : Nat → Nat → Nat) (cI cL cZ : ClassId) (sz : Nat) (a0 : Nat) (a3 : Nat) (a1 : Nat) (a2 : Nat) (a4 : Nat) (a5 : Nat) (a18 : Nat) (k0 : Int32) : Met l y_NU_way (Cond.code y_NU_way prog_1_method_8_code 2 (some .int) :: wsA) { frames := 1, cells := 0, slots := 0, locals := 21 } (va_Pc [.ref a0, .int k0] (fun U => U.heap.size = sz ∧ va_P (dC, dI) clA [(a0, .inr (0, [.ref a1, .ref a2, .ref a3, .ref a4, .ref a5])), (a3, .inr (3, [.ref a18, .int (-1)]))] U.heap ∧ va_K (dC, dI) clA [(cI, .int), (cL, .long), (cZ, .boolean)] U ∧ va_D (fun _ => True) [(a0, .inr (0, [.ref a1, .ref a2, .ref a3, .ref a4, .ref a5])), (a3, .inr (3, [.ref a18, .int (-1)]))] ∧ NwA U)) (va_Qi (fun r (_ : Unit) => r = (-1)) (fun _ t => va_P (dC, dI) clA [(a0, .inr (0, [.ref a1, .ref a2, .ref a3, .ref a4, .ref a5])), (a3, .inr (3, [.ref a18, .int (-1)]))] t.heap ∧ va_D (va_A [(a0, .inr (0, [.ref a1, .ref a2, .ref a3, .ref a4, .ref a5])), (a3, .inr (3, [.ref a18, .int (-1)]))] sz) [(a0, .inr (0, [.ref a1, .ref a2, .ref a3, .ref a4, .ref a5])), (a3, .inr (3, [.ref a18, .int (-1)]))]) (va_A [(a0, .inr (0, [.ref a1, .ref a2, .ref a3, .ref a4, .ref a5])), (a3, .inr (3, [.ref a18, .int (-1)]))] sz)) 0 0 (va_A [(a0, .inr (0, [.ref a1, .ref a2, .ref a3, .ref a4, .ref a5])), (a3, .inr (3, [.ref a18, .int (-1)]))] sz) := by
  refine Met.ofW (cc := prog_1_method_8_code) (maxL := 2) (ret := (some .int)) (by decide) rfl ?_
  intro p e s m args below meth c s₁ B hml hv
  obtain ⟨rfl, hsz, hP, hK, hD0, hN⟩ := hv
  have hx := B.exec
  have hb := B.bytes
  have hr := B.returns
  have ht : ∀ w ∈ wsA, w.before _ s = true := fun w h => atoms_spec (ws := (Cond.code y_NU_way prog_1_method_8_code 2 (some .int) :: wsA)) B.pre w (List.mem_cons_of_mem _ h)
  have hown : s.vm.findClass "NetUnfolder" = some m.cls := findClass_of_methodNamed B.named
  have hlocks := B.notSynchronized
  subst hsz
  have hD := hD0.self (sz := s.heap.size)
  generalize hAe : va_A [(a0, .inr (0, [.ref a1, .ref a2, .ref a3, .ref a4, .ref a5])), (a3, .inr (3, [.ref a18, .int (-1)]))] s.heap.size = A at hD ⊢
  have hA : ∀ q : Nat, s.heap.size ≤ q → A q := fun q h => by rw [← hAe]; exact Or.inr h
  have hS : va_S A s.heap s.heap [] := va_S.rf
  have hl := lv_entry ([.ref a0, .int k0]) (n := 2) (Nat.le_of_ble_eq_true rfl)
  rw [lg_entry_eq]
  generalize (lg_sl ([.ref a0, .int k0]) ++ List.replicate (2 - (lg_sl ([.ref a0, .int k0])).length) Slot.unset).toArray = ls at hl ⊢
  replace hl : lv_has ls 2 [(0, .ref a0), (1, .int k0)] := hl
  refine lv_aload_n hx hb d_NU_way_0 rfl (lv_at hl 0 rfl) ?_
  refine va_get (D := (dC, dI)) (ci := 0) (v := .ref a3) (C := "NetUnfolder") (T := T_NU) (N := 5) hx hb ht in_NU hown hK hP 0 rfl rfl 2 (by decide) (ht _ wd_2_38) (fun _ h9 => h9) rfl d_NU_way_1 ?_
  refine lv_iload_n hx hb d_NU_way_4 rfl (lv_at hl 1 rfl) ?_
  have hPc := hP.sub (ws' := [(a3, .inr (3, [.ref a18, .int (-1)]))]) [1] rfl
  have hDc := hD.sub (ws' := [(a3, .inr (3, [.ref a18, .int (-1)]))]) [1] (by decide) rfl
  have hFc := va_free (wc := [(a3, .inr (3, [.ref a18, .int (-1)]))]) hD hS hA [1] rfl
  refine va_calli (va_runV (C := "NetUnfolder$Way") (As := [.int k0]) (rest := []) ⟨hx, hb, hml, hown, ht⟩ (c_Wa_step l dC dI cI cL cZ _ a3 a18 k0 ) (cwV 1 ht (good_V wd_2_198 wd_2_199 wd_2_200 wd_1_4 wd_2_201) rfl rfl rfl (by decide +kernel) ⟨Nat.le_of_ble_eq_true rfl, Nat.le_of_ble_eq_true rfl⟩) ⟨fun a U g mk q => by obtain ⟨q0, q1, qP, qK, qD, qN⟩ := q; exact ⟨q0, q1, qP, va_K.moved (u := U) (U := U.calling g mk a) (Vm.Alike.refl U.vm) qK, qD, NwA.same (u := U) rfl qN⟩, (va_recv (q0 := 1) (ci := 3) hK hP rfl rfl), fun U hU hW => ⟨rfl, by rw [hU], by rw [hU]; exact hPc, va_K.moved hW.alike hK, hDc.weaken (fun _ _ _ _ => trivial), NwA.warm hW hN⟩⟩ rfl rfl hl.1 rfl (lv_room (Nat.le_of_ble_eq_true rfl)) d_NU_way_5 ⟨Nat.le_of_ble_eq_true rfl, Nat.le_of_ble_eq_true rfl⟩) hS (fun q _ h => hFc q h) hFc (fun r9 u t H1 locs ht9 hvm hw2 hB hz1 hk1 hSn => ?_)
  obtain ⟨hP1, hD1⟩ := hB
  rw [ht9] at hP1
  obtain ⟨hPn, hDn⟩ := va_join (wr := [(a0, .inr (0, [.ref a1, .ref a2, .ref a3, .ref a4, .ref a5]))]) (w1 := [(a3, .inr (3, [.ref a18, .int (-1)]))]) hP hD [1] [0] rfl rfl (by decide) (by decide) hk1 hFc hP1 hD1
  replace hP : va_P (dC, dI) clA [(a0, .inr (0, [.ref a1, .ref a2, .ref a3, .ref a4, .ref a5])), (a3, .inr (3, [.ref a18, .int (-1)]))] H1 := hPn
  replace hD : va_D A [(a0, .inr (0, [.ref a1, .ref a2, .ref a3, .ref a4, .ref a5])), (a3, .inr (3, [.ref a18, .int (-1)]))] := hDn
  replace hS := hSn
  clear hPn hDn hSn
  clear hPc hDc hFc hP1 hD1 hk1 hz1 ht9 hvm
  refine W.cs (cells' := 0) (slots' := 0) rfl rfl ?_
  subst hw2
  have hP9 := hP.sub (ws' := [(a0, .inr (0, [.ref a1, .ref a2, .ref a3, .ref a4, .ref a5])), (a3, .inr (3, [.ref a18, .int (-1)]))]) [0, 1] rfl
  have hD9 := hD.sub (ws' := [(a0, .inr (0, [.ref a1, .ref a2, .ref a3, .ref a4, .ref a5])), (a3, .inr (3, [.ref a18, .int (-1)]))]) [0, 1] (by decide) rfl
  exact W.iret (v := (-1)) hx hb hr (fun t ht9 hW => ⟨⟨(-1), (), rfl, rfl, by rw [ht9]; exact hP9, hD9⟩, hS.F ht9⟩) hS.2.2 d_NU_way_8

set_option maxHeartbeats 4000000 in
set_option maxRecDepth 100000 in
theorem c_NU_count_0 (l : Launch) (dC : Nat → ClassId) (dI : Nat → Nat → Nat) (cI cL cZ : ClassId) (sz : Nat) (a0 : Nat) (a2 : Nat) (a3 : Nat) (a1 : Nat) (a4 : Nat) (a5 : Nat) (a8 : Nat) (a9 : Nat) (a10 : Nat) (a11 : Nat) (a12 : Nat) (a13 : Nat) (a14 : Nat) (a15 : Nat) (a16 : Nat) (a17 : Nat) (a18 : Nat) (k0 : Int32) (h1 : k0 = 0) : Met l y_NU_count (Cond.code y_NU_count prog_1_method_10_code 2 (some .int) :: wsA) { frames := 0, cells := 0, slots := 0, locals := 0 } (va_Pc [.ref a0, .int k0] (fun U => U.heap.size = sz ∧ va_P (dC, dI) clA [(a0, .inr (0, [.ref a1, .ref a2, .ref a3, .ref a4, .ref a5])), (a2, .inr (2, [.int 0, .ref a8, .ref a9, .ref a10, .ref a11, .ref a12, .int 0, .ref a13, .ref a14, .ref a15, .ref a16, .ref a17, .int 0, .int 0])), (a3, .inr (3, [.ref a18, .int (-1)]))] U.heap ∧ va_K (dC, dI) clA [(cI, .int), (cL, .long), (cZ, .boolean)] U ∧ va_D (fun _ => True) [(a0, .inr (0, [.ref a1, .ref a2, .ref a3, .ref a4, .ref a5])), (a2, .inr (2, [.int 0, .ref a8, .ref a9, .ref a10, .ref a11, .ref a12, .int 0, .ref a13, .ref a14, .ref a15, .ref a16, .ref a17, .int 0, .int 0])), (a3, .inr (3, [.ref a18, .int (-1)]))] ∧ NwA U)) (va_Qi (fun r (_ : Unit) => r = 0) (fun _ t => va_P (dC, dI) clA [(a0, .inr (0, [.ref a1, .ref a2, .ref a3, .ref a4, .ref a5])), (a2, .inr (2, [.int 0, .ref a8, .ref a9, .ref a10, .ref a11, .ref a12, .int 0, .ref a13, .ref a14, .ref a15, .ref a16, .ref a17, .int 0, .int 0])), (a3, .inr (3, [.ref a18, .int (-1)]))] t.heap ∧ va_D (va_A [(a0, .inr (0, [.ref a1, .ref a2, .ref a3, .ref a4, .ref a5])), (a2, .inr (2, [.int 0, .ref a8, .ref a9, .ref a10, .ref a11, .ref a12, .int 0, .ref a13, .ref a14, .ref a15, .ref a16, .ref a17, .int 0, .int 0])), (a3, .inr (3, [.ref a18, .int (-1)]))] sz) [(a0, .inr (0, [.ref a1, .ref a2, .ref a3, .ref a4, .ref a5])), (a2, .inr (2, [.int 0, .ref a8, .ref a9, .ref a10, .ref a11, .ref a12, .int 0, .ref a13, .ref a14, .ref a15, .ref a16, .ref a17, .int 0, .int 0])), (a3, .inr (3, [.ref a18, .int (-1)]))]) (va_A [(a0, .inr (0, [.ref a1, .ref a2, .ref a3, .ref a4, .ref a5])), (a2, .inr (2, [.int 0, .ref a8, .ref a9, .ref a10, .ref a11, .ref a12, .int 0, .ref a13, .ref a14, .ref a15, .ref a16, .ref a17, .int 0, .int 0])), (a3, .inr (3, [.ref a18, .int (-1)]))] sz)) 0 0 (va_A [(a0, .inr (0, [.ref a1, .ref a2, .ref a3, .ref a4, .ref a5])), (a2, .inr (2, [.int 0, .ref a8, .ref a9, .ref a10, .ref a11, .ref a12, .int 0, .ref a13, .ref a14, .ref a15, .ref a16, .ref a17, .int 0, .int 0])), (a3, .inr (3, [.ref a18, .int (-1)]))] sz) := by
  refine Met.ofW (cc := prog_1_method_10_code) (maxL := 2) (ret := (some .int)) (by decide) rfl ?_
  intro p e s m args below meth c s₁ B hml hv
  obtain ⟨rfl, hsz, hP, hK, hD0, hN⟩ := hv
  have hx := B.exec
  have hb := B.bytes
  have hr := B.returns
  have ht : ∀ w ∈ wsA, w.before _ s = true := fun w h => atoms_spec (ws := (Cond.code y_NU_count prog_1_method_10_code 2 (some .int) :: wsA)) B.pre w (List.mem_cons_of_mem _ h)
  have hown : s.vm.findClass "NetUnfolder" = some m.cls := findClass_of_methodNamed B.named
  have hlocks := B.notSynchronized
  subst hsz
  have hD := hD0.self (sz := s.heap.size)
  generalize hAe : va_A [(a0, .inr (0, [.ref a1, .ref a2, .ref a3, .ref a4, .ref a5])), (a2, .inr (2, [.int 0, .ref a8, .ref a9, .ref a10, .ref a11, .ref a12, .int 0, .ref a13, .ref a14, .ref a15, .ref a16, .ref a17, .int 0, .int 0])), (a3, .inr (3, [.ref a18, .int (-1)]))] s.heap.size = A at hD ⊢
  have hA : ∀ q : Nat, s.heap.size ≤ q → A q := fun q h => by rw [← hAe]; exact Or.inr h
  have hS : va_S A s.heap s.heap [] := va_S.rf
  have hl := lv_entry ([.ref a0, .int k0]) (n := 2) (Nat.le_of_ble_eq_true rfl)
  rw [lg_entry_eq]
  generalize (lg_sl ([.ref a0, .int k0]) ++ List.replicate (2 - (lg_sl ([.ref a0, .int k0])).length) Slot.unset).toArray = ls at hl ⊢
  replace hl : lv_has ls 2 [(0, .ref a0), (1, .int k0)] := hl
  refine lv_iload_n hx hb d_NU_count_0 rfl (lv_at hl 1 rfl) ?_
  have hv1 : k0 = 0 := h1
  refine lv_tableIn (off := 31) (tgt := 32) hx hb d_NU_count_1 (by rw [hv1]; decide) (by rw [hv1]; decide) (by rw [hv1]; decide) (by decide) ?_
  refine lv_aload_n hx hb d_NU_count_32 rfl (lv_at hl 0 rfl) ?_
  refine va_get (D := (dC, dI)) (ci := 0) (v := .ref a2) (C := "NetUnfolder") (T := T_NU) (N := 5) hx hb ht in_NU hown hK hP 0 rfl rfl 1 (by decide) (ht _ wd_2_37) (fun _ h9 => h9) rfl d_NU_count_33 ?_
  refine va_get (D := (dC, dI)) (ci := 2) (v := .int 0) (C := "NetUnfolder$Prefix") (T := T_Pf) (N := 14) hx hb ht in_Pf hown hK hP 1 rfl rfl 6 (by decide) (ht _ wd_1_85) (fun _ h9 => h9) rfl d_NU_count_36 ?_
  have hP9 := hP.sub (ws' := [(a0, .inr (0, [.ref a1, .ref a2, .ref a3, .ref a4, .ref a5])), (a2, .inr (2, [.int 0, .ref a8, .ref a9, .ref a10, .ref a11, .ref a12, .int 0, .ref a13, .ref a14, .ref a15, .ref a16, .ref a17, .int 0, .int 0])), (a3, .inr (3, [.ref a18, .int (-1)]))]) [0, 1, 2] rfl
  have hD9 := hD.sub (ws' := [(a0, .inr (0, [.ref a1, .ref a2, .ref a3, .ref a4, .ref a5])), (a2, .inr (2, [.int 0, .ref a8, .ref a9, .ref a10, .ref a11, .ref a12, .int 0, .ref a13, .ref a14, .ref a15, .ref a16, .ref a17, .int 0, .int 0])), (a3, .inr (3, [.ref a18, .int (-1)]))]) [0, 1, 2] (by decide) rfl
  exact W.iret (v := 0) hx hb hr (fun t ht9 hW => ⟨⟨0, (), rfl, rfl, by rw [ht9]; exact hP9, hD9⟩, hS.F ht9⟩) hS.2.2 d_NU_count_39

set_option maxHeartbeats 4000000 in
set_option maxRecDepth 100000 in
theorem c_NU_count_1 (l : Launch) (dC : Nat → ClassId) (dI : Nat → Nat → Nat) (cI cL cZ : ClassId) (sz : Nat) (a0 : Nat) (a2 : Nat) (a3 : Nat) (a1 : Nat) (a4 : Nat) (a5 : Nat) (a8 : Nat) (a9 : Nat) (a10 : Nat) (a11 : Nat) (a12 : Nat) (a13 : Nat) (a14 : Nat) (a15 : Nat) (a16 : Nat) (a17 : Nat) (a18 : Nat) (k0 : Int32) (h1 : k0 = 1) : Met l y_NU_count (Cond.code y_NU_count prog_1_method_10_code 2 (some .int) :: wsA) { frames := 0, cells := 0, slots := 0, locals := 0 } (va_Pc [.ref a0, .int k0] (fun U => U.heap.size = sz ∧ va_P (dC, dI) clA [(a0, .inr (0, [.ref a1, .ref a2, .ref a3, .ref a4, .ref a5])), (a2, .inr (2, [.int 0, .ref a8, .ref a9, .ref a10, .ref a11, .ref a12, .int 0, .ref a13, .ref a14, .ref a15, .ref a16, .ref a17, .int 0, .int 0])), (a3, .inr (3, [.ref a18, .int (-1)]))] U.heap ∧ va_K (dC, dI) clA [(cI, .int), (cL, .long), (cZ, .boolean)] U ∧ va_D (fun _ => True) [(a0, .inr (0, [.ref a1, .ref a2, .ref a3, .ref a4, .ref a5])), (a2, .inr (2, [.int 0, .ref a8, .ref a9, .ref a10, .ref a11, .ref a12, .int 0, .ref a13, .ref a14, .ref a15, .ref a16, .ref a17, .int 0, .int 0])), (a3, .inr (3, [.ref a18, .int (-1)]))] ∧ NwA U)) (va_Qi (fun r (_ : Unit) => r = 0) (fun _ t => va_P (dC, dI) clA [(a0, .inr (0, [.ref a1, .ref a2, .ref a3, .ref a4, .ref a5])), (a2, .inr (2, [.int 0, .ref a8, .ref a9, .ref a10, .ref a11, .ref a12, .int 0, .ref a13, .ref a14, .ref a15, .ref a16, .ref a17, .int 0, .int 0])), (a3, .inr (3, [.ref a18, .int (-1)]))] t.heap ∧ va_D (va_A [(a0, .inr (0, [.ref a1, .ref a2, .ref a3, .ref a4, .ref a5])), (a2, .inr (2, [.int 0, .ref a8, .ref a9, .ref a10, .ref a11, .ref a12, .int 0, .ref a13, .ref a14, .ref a15, .ref a16, .ref a17, .int 0, .int 0])), (a3, .inr (3, [.ref a18, .int (-1)]))] sz) [(a0, .inr (0, [.ref a1, .ref a2, .ref a3, .ref a4, .ref a5])), (a2, .inr (2, [.int 0, .ref a8, .ref a9, .ref a10, .ref a11, .ref a12, .int 0, .ref a13, .ref a14, .ref a15, .ref a16, .ref a17, .int 0, .int 0])), (a3, .inr (3, [.ref a18, .int (-1)]))]) (va_A [(a0, .inr (0, [.ref a1, .ref a2, .ref a3, .ref a4, .ref a5])), (a2, .inr (2, [.int 0, .ref a8, .ref a9, .ref a10, .ref a11, .ref a12, .int 0, .ref a13, .ref a14, .ref a15, .ref a16, .ref a17, .int 0, .int 0])), (a3, .inr (3, [.ref a18, .int (-1)]))] sz)) 0 0 (va_A [(a0, .inr (0, [.ref a1, .ref a2, .ref a3, .ref a4, .ref a5])), (a2, .inr (2, [.int 0, .ref a8, .ref a9, .ref a10, .ref a11, .ref a12, .int 0, .ref a13, .ref a14, .ref a15, .ref a16, .ref a17, .int 0, .int 0])), (a3, .inr (3, [.ref a18, .int (-1)]))] sz) := by
  refine Met.ofW (cc := prog_1_method_10_code) (maxL := 2) (ret := (some .int)) (by decide) rfl ?_
  intro p e s m args below meth c s₁ B hml hv
  obtain ⟨rfl, hsz, hP, hK, hD0, hN⟩ := hv
  have hx := B.exec
  have hb := B.bytes
  have hr := B.returns
  have ht : ∀ w ∈ wsA, w.before _ s = true := fun w h => atoms_spec (ws := (Cond.code y_NU_count prog_1_method_10_code 2 (some .int) :: wsA)) B.pre w (List.mem_cons_of_mem _ h)
  have hown : s.vm.findClass "NetUnfolder" = some m.cls := findClass_of_methodNamed B.named
  have hlocks := B.notSynchronized
  subst hsz
  have hD := hD0.self (sz := s.heap.size)
  generalize hAe : va_A [(a0, .inr (0, [.ref a1, .ref a2, .ref a3, .ref a4, .ref a5])), (a2, .inr (2, [.int 0, .ref a8, .ref a9, .ref a10, .ref a11, .ref a12, .int 0, .ref a13, .ref a14, .ref a15, .ref a16, .ref a17, .int 0, .int 0])), (a3, .inr (3, [.ref a18, .int (-1)]))] s.heap.size = A at hD ⊢
  have hA : ∀ q : Nat, s.heap.size ≤ q → A q := fun q h => by rw [← hAe]; exact Or.inr h
  have hS : va_S A s.heap s.heap [] := va_S.rf
  have hl := lv_entry ([.ref a0, .int k0]) (n := 2) (Nat.le_of_ble_eq_true rfl)
  rw [lg_entry_eq]
  generalize (lg_sl ([.ref a0, .int k0]) ++ List.replicate (2 - (lg_sl ([.ref a0, .int k0])).length) Slot.unset).toArray = ls at hl ⊢
  replace hl : lv_has ls 2 [(0, .ref a0), (1, .int k0)] := hl
  refine lv_iload_n hx hb d_NU_count_0 rfl (lv_at hl 1 rfl) ?_
  have hv1 : k0 = 1 := h1
  refine lv_tableIn (off := 39) (tgt := 40) hx hb d_NU_count_1 (by rw [hv1]; decide) (by rw [hv1]; decide) (by rw [hv1]; decide) (by decide) ?_
  refine lv_aload_n hx hb d_NU_count_40 rfl (lv_at hl 0 rfl) ?_
  refine va_get (D := (dC, dI)) (ci := 0) (v := .ref a2) (C := "NetUnfolder") (T := T_NU) (N := 5) hx hb ht in_NU hown hK hP 0 rfl rfl 1 (by decide) (ht _ wd_2_37) (fun _ h9 => h9) rfl d_NU_count_41 ?_
  refine va_get (D := (dC, dI)) (ci := 2) (v := .int 0) (C := "NetUnfolder$Prefix") (T := T_Pf) (N := 14) hx hb ht in_Pf hown hK hP 1 rfl rfl 0 (by decide) (ht _ wd_1_65) (fun _ h9 => h9) rfl d_NU_count_44 ?_
  have hP9 := hP.sub (ws' := [(a0, .inr (0, [.ref a1, .ref a2, .ref a3, .ref a4, .ref a5])), (a2, .inr (2, [.int 0, .ref a8, .ref a9, .ref a10, .ref a11, .ref a12, .int 0, .ref a13, .ref a14, .ref a15, .ref a16, .ref a17, .int 0, .int 0])), (a3, .inr (3, [.ref a18, .int (-1)]))]) [0, 1, 2] rfl
  have hD9 := hD.sub (ws' := [(a0, .inr (0, [.ref a1, .ref a2, .ref a3, .ref a4, .ref a5])), (a2, .inr (2, [.int 0, .ref a8, .ref a9, .ref a10, .ref a11, .ref a12, .int 0, .ref a13, .ref a14, .ref a15, .ref a16, .ref a17, .int 0, .int 0])), (a3, .inr (3, [.ref a18, .int (-1)]))]) [0, 1, 2] (by decide) rfl
  exact W.iret (v := 0) hx hb hr (fun t ht9 hW => ⟨⟨0, (), rfl, rfl, by rw [ht9]; exact hP9, hD9⟩, hS.F ht9⟩) hS.2.2 d_NU_count_47

set_option maxHeartbeats 4000000 in
set_option maxRecDepth 100000 in
theorem c_NU_count_2 (l : Launch) (dC : Nat → ClassId) (dI : Nat → Nat → Nat) (cI cL cZ : ClassId) (sz : Nat) (a0 : Nat) (a2 : Nat) (a3 : Nat) (a1 : Nat) (a4 : Nat) (a5 : Nat) (a8 : Nat) (a9 : Nat) (a10 : Nat) (a11 : Nat) (a12 : Nat) (a13 : Nat) (a14 : Nat) (a15 : Nat) (a16 : Nat) (a17 : Nat) (a18 : Nat) (k0 : Int32) (h1 : k0 = 2) : Met l y_NU_count (Cond.code y_NU_count prog_1_method_10_code 2 (some .int) :: wsA) { frames := 1, cells := 0, slots := 0, locals := 20 } (va_Pc [.ref a0, .int k0] (fun U => U.heap.size = sz ∧ va_P (dC, dI) clA [(a0, .inr (0, [.ref a1, .ref a2, .ref a3, .ref a4, .ref a5])), (a2, .inr (2, [.int 0, .ref a8, .ref a9, .ref a10, .ref a11, .ref a12, .int 0, .ref a13, .ref a14, .ref a15, .ref a16, .ref a17, .int 0, .int 0])), (a3, .inr (3, [.ref a18, .int (-1)]))] U.heap ∧ va_K (dC, dI) clA [(cI, .int), (cL, .long), (cZ, .boolean)] U ∧ va_D (fun _ => True) [(a0, .inr (0, [.ref a1, .ref a2, .ref a3, .ref a4, .ref a5])), (a2, .inr (2, [.int 0, .ref a8, .ref a9, .ref a10, .ref a11, .ref a12, .int 0, .ref a13, .ref a14, .ref a15, .ref a16, .ref a17, .int 0, .int 0])), (a3, .inr (3, [.ref a18, .int (-1)]))] ∧ NwA U)) (va_Qi (fun r (_ : Unit) => r = 0) (fun _ t => va_P (dC, dI) clA [(a0, .inr (0, [.ref a1, .ref a2, .ref a3, .ref a4, .ref a5])), (a2, .inr (2, [.int 0, .ref a8, .ref a9, .ref a10, .ref a11, .ref a12, .int 0, .ref a13, .ref a14, .ref a15, .ref a16, .ref a17, .int 0, .int 0])), (a3, .inr (3, [.ref a18, .int (-1)]))] t.heap ∧ va_D (va_A [(a0, .inr (0, [.ref a1, .ref a2, .ref a3, .ref a4, .ref a5])), (a2, .inr (2, [.int 0, .ref a8, .ref a9, .ref a10, .ref a11, .ref a12, .int 0, .ref a13, .ref a14, .ref a15, .ref a16, .ref a17, .int 0, .int 0])), (a3, .inr (3, [.ref a18, .int (-1)]))] sz) [(a0, .inr (0, [.ref a1, .ref a2, .ref a3, .ref a4, .ref a5])), (a2, .inr (2, [.int 0, .ref a8, .ref a9, .ref a10, .ref a11, .ref a12, .int 0, .ref a13, .ref a14, .ref a15, .ref a16, .ref a17, .int 0, .int 0])), (a3, .inr (3, [.ref a18, .int (-1)]))]) (va_A [(a0, .inr (0, [.ref a1, .ref a2, .ref a3, .ref a4, .ref a5])), (a2, .inr (2, [.int 0, .ref a8, .ref a9, .ref a10, .ref a11, .ref a12, .int 0, .ref a13, .ref a14, .ref a15, .ref a16, .ref a17, .int 0, .int 0])), (a3, .inr (3, [.ref a18, .int (-1)]))] sz)) 0 0 (va_A [(a0, .inr (0, [.ref a1, .ref a2, .ref a3, .ref a4, .ref a5])), (a2, .inr (2, [.int 0, .ref a8, .ref a9, .ref a10, .ref a11, .ref a12, .int 0, .ref a13, .ref a14, .ref a15, .ref a16, .ref a17, .int 0, .int 0])), (a3, .inr (3, [.ref a18, .int (-1)]))] sz) := by
  refine Met.ofW (cc := prog_1_method_10_code) (maxL := 2) (ret := (some .int)) (by decide) rfl ?_
  intro p e s m args below meth c s₁ B hml hv
  obtain ⟨rfl, hsz, hP, hK, hD0, hN⟩ := hv
  have hx := B.exec
  have hb := B.bytes
  have hr := B.returns
  have ht : ∀ w ∈ wsA, w.before _ s = true := fun w h => atoms_spec (ws := (Cond.code y_NU_count prog_1_method_10_code 2 (some .int) :: wsA)) B.pre w (List.mem_cons_of_mem _ h)
  have hown : s.vm.findClass "NetUnfolder" = some m.cls := findClass_of_methodNamed B.named
  have hlocks := B.notSynchronized
  subst hsz
  have hD := hD0.self (sz := s.heap.size)
  generalize hAe : va_A [(a0, .inr (0, [.ref a1, .ref a2, .ref a3, .ref a4, .ref a5])), (a2, .inr (2, [.int 0, .ref a8, .ref a9, .ref a10, .ref a11, .ref a12, .int 0, .ref a13, .ref a14, .ref a15, .ref a16, .ref a17, .int 0, .int 0])), (a3, .inr (3, [.ref a18, .int (-1)]))] s.heap.size = A at hD ⊢
  have hA : ∀ q : Nat, s.heap.size ≤ q → A q := fun q h => by rw [← hAe]; exact Or.inr h
  have hS : va_S A s.heap s.heap [] := va_S.rf
  have hl := lv_entry ([.ref a0, .int k0]) (n := 2) (Nat.le_of_ble_eq_true rfl)
  rw [lg_entry_eq]
  generalize (lg_sl ([.ref a0, .int k0]) ++ List.replicate (2 - (lg_sl ([.ref a0, .int k0])).length) Slot.unset).toArray = ls at hl ⊢
  replace hl : lv_has ls 2 [(0, .ref a0), (1, .int k0)] := hl
  refine lv_iload_n hx hb d_NU_count_0 rfl (lv_at hl 1 rfl) ?_
  have hv1 : k0 = 2 := h1
  refine lv_tableIn (off := 47) (tgt := 48) hx hb d_NU_count_1 (by rw [hv1]; decide) (by rw [hv1]; decide) (by rw [hv1]; decide) (by decide) ?_
  refine lv_aload_n hx hb d_NU_count_48 rfl (lv_at hl 0 rfl) ?_
  refine va_get (D := (dC, dI)) (ci := 0) (v := .ref a2) (C := "NetUnfolder") (T := T_NU) (N := 5) hx hb ht in_NU hown hK hP 0 rfl rfl 1 (by decide) (ht _ wd_2_37) (fun _ h9 => h9) rfl d_NU_count_49 ?_
  refine va_get (D := (dC, dI)) (ci := 2) (v := .int 0) (C := "NetUnfolder$Prefix") (T := T_Pf) (N := 14) hx hb ht in_Pf hown hK hP 1 rfl rfl 12 (by decide) (ht _ wd_1_103) (fun _ h9 => h9) rfl d_NU_count_52 ?_
  have hPc : va_P (dC, dI) clA [] _ := pu_P (H := s.heap)
  have hDc : va_D (fun _ => True) [] := pu_D
  have hFc := pu_free hS hA
  refine va_calli (va_runS (As := [.int 0]) (rest := []) ⟨hx, hb, hml, hown, ht⟩ (c_Ig_bitCount_0 l dC dI cI cL cZ _  ) (va_cwS 1 ht (good_S wd_2_206 wd_2_125 wd_1_17 wd_2_126) rfl rfl rfl (by decide +kernel) ⟨Nat.le_of_ble_eq_true rfl, Nat.le_of_ble_eq_true rfl⟩) ⟨fun a U g mk q => by obtain ⟨q0, q1, qP, qK, qD, qN⟩ := q; exact ⟨q0, q1, qP, va_K.moved (u := U) (U := U.calling g mk a) (Vm.Alike.refl U.vm) qK, qD, NwA.same (u := U) rfl qN⟩, fun U hU hW => ⟨rfl, by rw [hU], by rw [hU]; exact hPc, va_K.moved hW.alike hK, hDc.weaken (fun _ _ _ _ => trivial), NwA.warm hW hN⟩⟩ rfl rfl hl.1 rfl (lv_room (Nat.le_of_ble_eq_true rfl)) d_NU_count_55 ⟨Nat.le_of_ble_eq_true rfl, Nat.le_of_ble_eq_true rfl⟩) hS (fun q _ h => hFc q h) hFc (fun r9 u t H2 locs ht9 hvm hw3 hB hz1 hk1 hSn => ?_)
  replace hP : va_P (dC, dI) clA [(a0, .inr (0, [.ref a1, .ref a2, .ref a3, .ref a4, .ref a5])), (a2, .inr (2, [.int 0, .ref a8, .ref a9, .ref a10, .ref a11, .ref a12, .int 0, .ref a13, .ref a14, .ref a15, .ref a16, .ref a17, .int 0, .int 0])), (a3, .inr (3, [.ref a18, .int (-1)]))] H2 := pu_keep hP hk1
  replace hS := hSn
  clear hSn hPc hDc hFc hk1 hz1 ht9 hvm hB
  refine W.cs (cells' := 0) (slots' := 0) rfl rfl ?_
  subst hw3
  have hP9 := hP.sub (ws' := [(a0, .inr (0, [.ref a1, .ref a2, .ref a3, .ref a4, .ref a5])), (a2, .inr (2, [.int 0, .ref a8, .ref a9, .ref a10, .ref a11, .ref a12, .int 0, .ref a13, .ref a14, .ref a15, .ref a16, .ref a17, .int 0, .int 0])), (a3, .inr (3, [.ref a18, .int (-1)]))]) [0, 1, 2] rfl
  have hD9 := hD.sub (ws' := [(a0, .inr (0, [.ref a1, .ref a2, .ref a3, .ref a4, .ref a5])), (a2, .inr (2, [.int 0, .ref a8, .ref a9, .ref a10, .ref a11, .ref a12, .int 0, .ref a13, .ref a14, .ref a15, .ref a16, .ref a17, .int 0, .int 0])), (a3, .inr (3, [.ref a18, .int (-1)]))]) [0, 1, 2] (by decide) rfl
  exact W.iret (v := 0) hx hb hr (fun t ht9 hW => ⟨⟨0, (), rfl, rfl, by rw [ht9]; exact hP9, hD9⟩, hS.F ht9⟩) hS.2.2 d_NU_count_58

set_option maxHeartbeats 4000000 in
set_option maxRecDepth 100000 in
theorem c_NU_count_n (l : Launch) (dC : Nat → ClassId) (dI : Nat → Nat → Nat) (cI cL cZ : ClassId) (sz : Nat) (a0 : Nat) (a2 : Nat) (a3 : Nat) (a1 : Nat) (a4 : Nat) (a5 : Nat) (a8 : Nat) (a9 : Nat) (a10 : Nat) (a11 : Nat) (a12 : Nat) (a13 : Nat) (a14 : Nat) (a15 : Nat) (a16 : Nat) (a17 : Nat) (a18 : Nat) (k0 : Int32) (h0 : ¬ k0 = 0) (h1 : ¬ k0 = 1) (h2 : ¬ k0 = 2) : Met l y_NU_count (Cond.code y_NU_count prog_1_method_10_code 2 (some .int) :: wsA) { frames := 0, cells := 0, slots := 0, locals := 0 } (va_Pc [.ref a0, .int k0] (fun U => U.heap.size = sz ∧ va_P (dC, dI) clA [(a0, .inr (0, [.ref a1, .ref a2, .ref a3, .ref a4, .ref a5])), (a2, .inr (2, [.int 0, .ref a8, .ref a9, .ref a10, .ref a11, .ref a12, .int 0, .ref a13, .ref a14, .ref a15, .ref a16, .ref a17, .int 0, .int 0])), (a3, .inr (3, [.ref a18, .int (-1)]))] U.heap ∧ va_K (dC, dI) clA [(cI, .int), (cL, .long), (cZ, .boolean)] U ∧ va_D (fun _ => True) [(a0, .inr (0, [.ref a1, .ref a2, .ref a3, .ref a4, .ref a5])), (a2, .inr (2, [.int 0, .ref a8, .ref a9, .ref a10, .ref a11, .ref a12, .int 0, .ref a13, .ref a14, .ref a15, .ref a16, .ref a17, .int 0, .int 0])), (a3, .inr (3, [.ref a18, .int (-1)]))] ∧ NwA U)) (va_Qi (fun r (_ : Unit) => r = (-1)) (fun _ t => va_P (dC, dI) clA [(a0, .inr (0, [.ref a1, .ref a2, .ref a3, .ref a4, .ref a5])), (a2, .inr (2, [.int 0, .ref a8, .ref a9, .ref a10, .ref a11, .ref a12, .int 0, .ref a13, .ref a14, .ref a15, .ref a16, .ref a17, .int 0, .int 0])), (a3, .inr (3, [.ref a18, .int (-1)]))] t.heap ∧ va_D (va_A [(a0, .inr (0, [.ref a1, .ref a2, .ref a3, .ref a4, .ref a5])), (a2, .inr (2, [.int 0, .ref a8, .ref a9, .ref a10, .ref a11, .ref a12, .int 0, .ref a13, .ref a14, .ref a15, .ref a16, .ref a17, .int 0, .int 0])), (a3, .inr (3, [.ref a18, .int (-1)]))] sz) [(a0, .inr (0, [.ref a1, .ref a2, .ref a3, .ref a4, .ref a5])), (a2, .inr (2, [.int 0, .ref a8, .ref a9, .ref a10, .ref a11, .ref a12, .int 0, .ref a13, .ref a14, .ref a15, .ref a16, .ref a17, .int 0, .int 0])), (a3, .inr (3, [.ref a18, .int (-1)]))]) (va_A [(a0, .inr (0, [.ref a1, .ref a2, .ref a3, .ref a4, .ref a5])), (a2, .inr (2, [.int 0, .ref a8, .ref a9, .ref a10, .ref a11, .ref a12, .int 0, .ref a13, .ref a14, .ref a15, .ref a16, .ref a17, .int 0, .int 0])), (a3, .inr (3, [.ref a18, .int (-1)]))] sz)) 0 0 (va_A [(a0, .inr (0, [.ref a1, .ref a2, .ref a3, .ref a4, .ref a5])), (a2, .inr (2, [.int 0, .ref a8, .ref a9, .ref a10, .ref a11, .ref a12, .int 0, .ref a13, .ref a14, .ref a15, .ref a16, .ref a17, .int 0, .int 0])), (a3, .inr (3, [.ref a18, .int (-1)]))] sz) := by
  refine Met.ofW (cc := prog_1_method_10_code) (maxL := 2) (ret := (some .int)) (by decide) rfl ?_
  intro p e s m args below meth c s₁ B hml hv
  obtain ⟨rfl, hsz, hP, hK, hD0, hN⟩ := hv
  have hx := B.exec
  have hb := B.bytes
  have hr := B.returns
  have ht : ∀ w ∈ wsA, w.before _ s = true := fun w h => atoms_spec (ws := (Cond.code y_NU_count prog_1_method_10_code 2 (some .int) :: wsA)) B.pre w (List.mem_cons_of_mem _ h)
  have hown : s.vm.findClass "NetUnfolder" = some m.cls := findClass_of_methodNamed B.named
  have hlocks := B.notSynchronized
  subst hsz
  have hD := hD0.self (sz := s.heap.size)
  generalize hAe : va_A [(a0, .inr (0, [.ref a1, .ref a2, .ref a3, .ref a4, .ref a5])), (a2, .inr (2, [.int 0, .ref a8, .ref a9, .ref a10, .ref a11, .ref a12, .int 0, .ref a13, .ref a14, .ref a15, .ref a16, .ref a17, .int 0, .int 0])), (a3, .inr (3, [.ref a18, .int (-1)]))] s.heap.size = A at hD ⊢
  have hA : ∀ q : Nat, s.heap.size ≤ q → A q := fun q h => by rw [← hAe]; exact Or.inr h
  have hS : va_S A s.heap s.heap [] := va_S.rf
  have hl := lv_entry ([.ref a0, .int k0]) (n := 2) (Nat.le_of_ble_eq_true rfl)
  rw [lg_entry_eq]
  generalize (lg_sl ([.ref a0, .int k0]) ++ List.replicate (2 - (lg_sl ([.ref a0, .int k0])).length) Slot.unset).toArray = ls at hl ⊢
  replace hl : lv_has ls 2 [(0, .ref a0), (1, .int k0)] := hl
  refine lv_iload_n hx hb d_NU_count_0 rfl (lv_at hl 1 rfl) ?_
  by_cases hv1 : k0 = 3
  · refine lv_tableIn (off := 58) (tgt := 59) hx hb d_NU_count_1 (by rw [hv1]; decide) (by rw [hv1]; decide) (by rw [hv1]; decide) (by decide) ?_
    refine lv_aload_n hx hb d_NU_count_59 rfl (lv_at hl 0 rfl) ?_
    refine va_get (D := (dC, dI)) (ci := 0) (v := .ref a3) (C := "NetUnfolder") (T := T_NU) (N := 5) hx hb ht in_NU hown hK hP 0 rfl rfl 2 (by decide) (ht _ wd_2_38) (fun _ h9 => h9) rfl d_NU_count_60 ?_
    refine va_get (D := (dC, dI)) (ci := 3) (v := .int (-1)) (C := "NetUnfolder$Way") (T := T_Wa) (N := 2) hx hb ht in_Wa hown hK hP 2 rfl rfl 1 (by decide) (ht _ wd_1_146) (fun _ h9 => h9) rfl d_NU_count_63 ?_
    have hP9 := hP.sub (ws' := [(a0, .inr (0, [.ref a1, .ref a2, .ref a3, .ref a4, .ref a5])), (a2, .inr (2, [.int 0, .ref a8, .ref a9, .ref a10, .ref a11, .ref a12, .int 0, .ref a13, .ref a14, .ref a15, .ref a16, .ref a17, .int 0, .int 0])), (a3, .inr (3, [.ref a18, .int (-1)]))]) [0, 1, 2] rfl
    have hD9 := hD.sub (ws' := [(a0, .inr (0, [.ref a1, .ref a2, .ref a3, .ref a4, .ref a5])), (a2, .inr (2, [.int 0, .ref a8, .ref a9, .ref a10, .ref a11, .ref a12, .int 0, .ref a13, .ref a14, .ref a15, .ref a16, .ref a17, .int 0, .int 0])), (a3, .inr (3, [.ref a18, .int (-1)]))]) [0, 1, 2] (by decide) rfl
    exact W.iret (v := (-1)) hx hb hr (fun t ht9 hW => ⟨⟨(-1), (), rfl, rfl, by rw [ht9]; exact hP9, hD9⟩, hS.F ht9⟩) hS.2.2 d_NU_count_66
  refine lv_tableOut (tgt := 67) hx hb d_NU_count_1 (by have eh0 := fa_ne (k := 0) (by decide) h0; have eh1 := fa_ne (k := 1) (by decide) h1; have eh2 := fa_ne (k := 2) (by decide) h2; have ehv1 := fa_ne (k := 3) (by decide) hv1; omega) (by decide) ?_
  refine lv_iconst (v := (-1)) hx hb d_NU_count_67 (by decide) ?_
  have hP9 := hP.sub (ws' := [(a0, .inr (0, [.ref a1, .ref a2, .ref a3, .ref a4, .ref a5])), (a2, .inr (2, [.int 0, .ref a8, .ref a9, .ref a10, .ref a11, .ref a12, .int 0, .ref a13, .ref a14, .ref a15, .ref a16, .ref a17, .int 0, .int 0])), (a3, .inr (3, [.ref a18, .int (-1)]))]) [0, 1, 2] rfl
  have hD9 := hD.sub (ws' := [(a0, .inr (0, [.ref a1, .ref a2, .ref a3, .ref a4, .ref a5])), (a2, .inr (2, [.int 0, .ref a8, .ref a9, .ref a10, .ref a11, .ref a12, .int 0, .ref a13, .ref a14, .ref a15, .ref a16, .ref a17, .int 0, .int 0])), (a3, .inr (3, [.ref a18, .int (-1)]))]) [0, 1, 2] (by decide) rfl
  exact W.iret (v := (-1)) hx hb hr (fun t ht9 hW => ⟨⟨(-1), (), rfl, rfl, by rw [ht9]; exact hP9, hD9⟩, hS.F ht9⟩) hS.2.2 d_NU_count_68

set_option maxHeartbeats 4000000 in
set_option maxRecDepth 100000 in
theorem c_NU_event (l : Launch) (dC : Nat → ClassId) (dI : Nat → Nat → Nat) (cI cL cZ : ClassId) (sz : Nat) (a0 : Nat) (a2 : Nat) (a1 : Nat) (a3 : Nat) (a4 : Nat) (a5 : Nat) (a8 : Nat) (a9 : Nat) (a10 : Nat) (a11 : Nat) (a12 : Nat) (a13 : Nat) (a14 : Nat) (a15 : Nat) (a16 : Nat) (a17 : Nat) (k0 : Int32) (k1 : Int32) : Met l y_NU_event (Cond.code y_NU_event prog_1_method_11_code 3 (some .int) :: wsA) { frames := 0, cells := 0, slots := 0, locals := 0 } (va_Pc [.ref a0, .int k0, .int k1] (fun U => U.heap.size = sz ∧ va_P (dC, dI) clA [(a0, .inr (0, [.ref a1, .ref a2, .ref a3, .ref a4, .ref a5])), (a2, .inr (2, [.int 0, .ref a8, .ref a9, .ref a10, .ref a11, .ref a12, .int 0, .ref a13, .ref a14, .ref a15, .ref a16, .ref a17, .int 0, .int 0]))] U.heap ∧ va_K (dC, dI) clA [(cI, .int), (cL, .long), (cZ, .boolean)] U ∧ va_D (fun _ => True) [(a0, .inr (0, [.ref a1, .ref a2, .ref a3, .ref a4, .ref a5])), (a2, .inr (2, [.int 0, .ref a8, .ref a9, .ref a10, .ref a11, .ref a12, .int 0, .ref a13, .ref a14, .ref a15, .ref a16, .ref a17, .int 0, .int 0]))] ∧ NwA U)) (va_Qi (fun r (_ : Unit) => r = (-1)) (fun _ t => va_P (dC, dI) clA [(a0, .inr (0, [.ref a1, .ref a2, .ref a3, .ref a4, .ref a5])), (a2, .inr (2, [.int 0, .ref a8, .ref a9, .ref a10, .ref a11, .ref a12, .int 0, .ref a13, .ref a14, .ref a15, .ref a16, .ref a17, .int 0, .int 0]))] t.heap ∧ va_D (va_A [(a0, .inr (0, [.ref a1, .ref a2, .ref a3, .ref a4, .ref a5])), (a2, .inr (2, [.int 0, .ref a8, .ref a9, .ref a10, .ref a11, .ref a12, .int 0, .ref a13, .ref a14, .ref a15, .ref a16, .ref a17, .int 0, .int 0]))] sz) [(a0, .inr (0, [.ref a1, .ref a2, .ref a3, .ref a4, .ref a5])), (a2, .inr (2, [.int 0, .ref a8, .ref a9, .ref a10, .ref a11, .ref a12, .int 0, .ref a13, .ref a14, .ref a15, .ref a16, .ref a17, .int 0, .int 0]))]) (va_A [(a0, .inr (0, [.ref a1, .ref a2, .ref a3, .ref a4, .ref a5])), (a2, .inr (2, [.int 0, .ref a8, .ref a9, .ref a10, .ref a11, .ref a12, .int 0, .ref a13, .ref a14, .ref a15, .ref a16, .ref a17, .int 0, .int 0]))] sz)) 0 0 (va_A [(a0, .inr (0, [.ref a1, .ref a2, .ref a3, .ref a4, .ref a5])), (a2, .inr (2, [.int 0, .ref a8, .ref a9, .ref a10, .ref a11, .ref a12, .int 0, .ref a13, .ref a14, .ref a15, .ref a16, .ref a17, .int 0, .int 0]))] sz) := by
  refine Met.ofW (cc := prog_1_method_11_code) (maxL := 3) (ret := (some .int)) (by decide) rfl ?_
  intro p e s m args below meth c s₁ B hml hv
  obtain ⟨rfl, hsz, hP, hK, hD0, hN⟩ := hv
  have hx := B.exec
  have hb := B.bytes
  have hr := B.returns
  have ht : ∀ w ∈ wsA, w.before _ s = true := fun w h => atoms_spec (ws := (Cond.code y_NU_event prog_1_method_11_code 3 (some .int) :: wsA)) B.pre w (List.mem_cons_of_mem _ h)
  have hown : s.vm.findClass "NetUnfolder" = some m.cls := findClass_of_methodNamed B.named
  have hlocks := B.notSynchronized
  subst hsz
  have hD := hD0.self (sz := s.heap.size)
  generalize hAe : va_A [(a0, .inr (0, [.ref a1, .ref a2, .ref a3, .ref a4, .ref a5])), (a2, .inr (2, [.int 0, .ref a8, .ref a9, .ref a10, .ref a11, .ref a12, .int 0, .ref a13, .ref a14, .ref a15, .ref a16, .ref a17, .int 0, .int 0]))] s.heap.size = A at hD ⊢
  have hA : ∀ q : Nat, s.heap.size ≤ q → A q := fun q h => by rw [← hAe]; exact Or.inr h
  have hS : va_S A s.heap s.heap [] := va_S.rf
  have hl := lv_entry ([.ref a0, .int k0, .int k1]) (n := 3) (Nat.le_of_ble_eq_true rfl)
  rw [lg_entry_eq]
  generalize (lg_sl ([.ref a0, .int k0, .int k1]) ++ List.replicate (3 - (lg_sl ([.ref a0, .int k0, .int k1])).length) Slot.unset).toArray = ls at hl ⊢
  replace hl : lv_has ls 3 [(0, .ref a0), (1, .int k0), (2, .int k1)] := hl
  refine lv_iload_n hx hb d_NU_event_0 rfl (lv_at hl 1 rfl) ?_
  refine lv_if_lt (tgt := 15) hx hb d_NU_event_1 (by decide) (fun hb1 => ?_) (fun hb1 => ?_)
  · skip
    refine lv_iconst (v := (-1)) hx hb d_NU_event_15 (by decide) ?_
    have hP9 := hP.sub (ws' := [(a0, .inr (0, [.ref a1, .ref a2, .ref a3, .ref a4, .ref a5])), (a2, .inr (2, [.int 0, .ref a8, .ref a9, .ref a10, .ref a11, .ref a12, .int 0, .ref a13, .ref a14, .ref a15, .ref a16, .ref a17, .int 0, .int 0]))]) [0, 1] rfl
    have hD9 := hD.sub (ws' := [(a0, .inr (0, [.ref a1, .ref a2, .ref a3, .ref a4, .ref a5])), (a2, .inr (2, [.int 0, .ref a8, .ref a9, .ref a10, .ref a11, .ref a12, .int 0, .ref a13, .ref a14, .ref a15, .ref a16, .ref a17, .int 0, .int 0]))]) [0, 1] (by decide) rfl
    exact W.iret (v := (-1)) hx hb hr (fun t ht9 hW => ⟨⟨(-1), (), rfl, rfl, by rw [ht9]; exact hP9, hD9⟩, hS.F ht9⟩) hS.2.2 d_NU_event_16
  · skip
    refine lv_iload_n hx hb d_NU_event_4 rfl (lv_at hl 1 rfl) ?_
    refine lv_aload_n hx hb d_NU_event_5 rfl (lv_at hl 0 rfl) ?_
    refine va_get (D := (dC, dI)) (ci := 0) (v := .ref a2) (C := "NetUnfolder") (T := T_NU) (N := 5) hx hb ht in_NU hown hK hP 0 rfl rfl 1 (by decide) (ht _ wd_2_37) (fun _ h9 => h9) rfl d_NU_event_6 ?_
    refine va_get (D := (dC, dI)) (ci := 2) (v := .int 0) (C := "NetUnfolder$Prefix") (T := T_Pf) (N := 14) hx hb ht in_Pf hown hK hP 1 rfl rfl 6 (by decide) (ht _ wd_1_85) (fun _ h9 => h9) rfl d_NU_event_9 ?_
    refine lv_icmp_lt (tgt := 17) hx hb d_NU_event_12 (by decide) (fun h9 => (by exfalso; have ehb1 := fa_nlt (k := 0) (by decide) hb1; have eh9 := fa_lt (k := 0) (by decide) h9; omega)) (fun _ => ?_)
    refine lv_iconst (v := (-1)) hx hb d_NU_event_15 (by decide) ?_
    have hP9 := hP.sub (ws' := [(a0, .inr (0, [.ref a1, .ref a2, .ref a3, .ref a4, .ref a5])), (a2, .inr (2, [.int 0, .ref a8, .ref a9, .ref a10, .ref a11, .ref a12, .int 0, .ref a13, .ref a14, .ref a15, .ref a16, .ref a17, .int 0, .int 0]))]) [0, 1] rfl
    have hD9 := hD.sub (ws' := [(a0, .inr (0, [.ref a1, .ref a2, .ref a3, .ref a4, .ref a5])), (a2, .inr (2, [.int 0, .ref a8, .ref a9, .ref a10, .ref a11, .ref a12, .int 0, .ref a13, .ref a14, .ref a15, .ref a16, .ref a17, .int 0, .int 0]))]) [0, 1] (by decide) rfl
    exact W.iret (v := (-1)) hx hb hr (fun t ht9 hW => ⟨⟨(-1), (), rfl, rfl, by rw [ht9]; exact hP9, hD9⟩, hS.F ht9⟩) hS.2.2 d_NU_event_16

set_option maxHeartbeats 4000000 in
set_option maxRecDepth 100000 in
theorem c_NU_takes (l : Launch) (dC : Nat → ClassId) (dI : Nat → Nat → Nat) (cI cL cZ : ClassId) (sz : Nat) (a0 : Nat) (a2 : Nat) (a1 : Nat) (a3 : Nat) (a4 : Nat) (a5 : Nat) (a8 : Nat) (a9 : Nat) (a10 : Nat) (a11 : Nat) (a12 : Nat) (a13 : Nat) (a14 : Nat) (a15 : Nat) (a16 : Nat) (a17 : Nat) (k0 : Int32) (k1 : Int32) : Met l y_NU_takes (Cond.code y_NU_takes prog_1_method_12_code 3 (some .int) :: wsA) { frames := 0, cells := 0, slots := 0, locals := 0 } (va_Pc [.ref a0, .int k0, .int k1] (fun U => U.heap.size = sz ∧ va_P (dC, dI) clA [(a0, .inr (0, [.ref a1, .ref a2, .ref a3, .ref a4, .ref a5])), (a2, .inr (2, [.int 0, .ref a8, .ref a9, .ref a10, .ref a11, .ref a12, .int 0, .ref a13, .ref a14, .ref a15, .ref a16, .ref a17, .int 0, .int 0]))] U.heap ∧ va_K (dC, dI) clA [(cI, .int), (cL, .long), (cZ, .boolean)] U ∧ va_D (fun _ => True) [(a0, .inr (0, [.ref a1, .ref a2, .ref a3, .ref a4, .ref a5])), (a2, .inr (2, [.int 0, .ref a8, .ref a9, .ref a10, .ref a11, .ref a12, .int 0, .ref a13, .ref a14, .ref a15, .ref a16, .ref a17, .int 0, .int 0]))] ∧ NwA U)) (va_Qi (fun r (_ : Unit) => r = (-1)) (fun _ t => va_P (dC, dI) clA [(a0, .inr (0, [.ref a1, .ref a2, .ref a3, .ref a4, .ref a5])), (a2, .inr (2, [.int 0, .ref a8, .ref a9, .ref a10, .ref a11, .ref a12, .int 0, .ref a13, .ref a14, .ref a15, .ref a16, .ref a17, .int 0, .int 0]))] t.heap ∧ va_D (va_A [(a0, .inr (0, [.ref a1, .ref a2, .ref a3, .ref a4, .ref a5])), (a2, .inr (2, [.int 0, .ref a8, .ref a9, .ref a10, .ref a11, .ref a12, .int 0, .ref a13, .ref a14, .ref a15, .ref a16, .ref a17, .int 0, .int 0]))] sz) [(a0, .inr (0, [.ref a1, .ref a2, .ref a3, .ref a4, .ref a5])), (a2, .inr (2, [.int 0, .ref a8, .ref a9, .ref a10, .ref a11, .ref a12, .int 0, .ref a13, .ref a14, .ref a15, .ref a16, .ref a17, .int 0, .int 0]))]) (va_A [(a0, .inr (0, [.ref a1, .ref a2, .ref a3, .ref a4, .ref a5])), (a2, .inr (2, [.int 0, .ref a8, .ref a9, .ref a10, .ref a11, .ref a12, .int 0, .ref a13, .ref a14, .ref a15, .ref a16, .ref a17, .int 0, .int 0]))] sz)) 0 0 (va_A [(a0, .inr (0, [.ref a1, .ref a2, .ref a3, .ref a4, .ref a5])), (a2, .inr (2, [.int 0, .ref a8, .ref a9, .ref a10, .ref a11, .ref a12, .int 0, .ref a13, .ref a14, .ref a15, .ref a16, .ref a17, .int 0, .int 0]))] sz) := by
  refine Met.ofW (cc := prog_1_method_12_code) (maxL := 3) (ret := (some .int)) (by decide) rfl ?_
  intro p e s m args below meth c s₁ B hml hv
  obtain ⟨rfl, hsz, hP, hK, hD0, hN⟩ := hv
  have hx := B.exec
  have hb := B.bytes
  have hr := B.returns
  have ht : ∀ w ∈ wsA, w.before _ s = true := fun w h => atoms_spec (ws := (Cond.code y_NU_takes prog_1_method_12_code 3 (some .int) :: wsA)) B.pre w (List.mem_cons_of_mem _ h)
  have hown : s.vm.findClass "NetUnfolder" = some m.cls := findClass_of_methodNamed B.named
  have hlocks := B.notSynchronized
  subst hsz
  have hD := hD0.self (sz := s.heap.size)
  generalize hAe : va_A [(a0, .inr (0, [.ref a1, .ref a2, .ref a3, .ref a4, .ref a5])), (a2, .inr (2, [.int 0, .ref a8, .ref a9, .ref a10, .ref a11, .ref a12, .int 0, .ref a13, .ref a14, .ref a15, .ref a16, .ref a17, .int 0, .int 0]))] s.heap.size = A at hD ⊢
  have hA : ∀ q : Nat, s.heap.size ≤ q → A q := fun q h => by rw [← hAe]; exact Or.inr h
  have hS : va_S A s.heap s.heap [] := va_S.rf
  have hl := lv_entry ([.ref a0, .int k0, .int k1]) (n := 3) (Nat.le_of_ble_eq_true rfl)
  rw [lg_entry_eq]
  generalize (lg_sl ([.ref a0, .int k0, .int k1]) ++ List.replicate (3 - (lg_sl ([.ref a0, .int k0, .int k1])).length) Slot.unset).toArray = ls at hl ⊢
  replace hl : lv_has ls 3 [(0, .ref a0), (1, .int k0), (2, .int k1)] := hl
  refine lv_iload_n hx hb d_NU_takes_0 rfl (lv_at hl 1 rfl) ?_
  refine lv_if_lt (tgt := 15) hx hb d_NU_takes_1 (by decide) (fun hb1 => ?_) (fun hb1 => ?_)
  · skip
    refine lv_iconst (v := (-1)) hx hb d_NU_takes_15 (by decide) ?_
    have hP9 := hP.sub (ws' := [(a0, .inr (0, [.ref a1, .ref a2, .ref a3, .ref a4, .ref a5])), (a2, .inr (2, [.int 0, .ref a8, .ref a9, .ref a10, .ref a11, .ref a12, .int 0, .ref a13, .ref a14, .ref a15, .ref a16, .ref a17, .int 0, .int 0]))]) [0, 1] rfl
    have hD9 := hD.sub (ws' := [(a0, .inr (0, [.ref a1, .ref a2, .ref a3, .ref a4, .ref a5])), (a2, .inr (2, [.int 0, .ref a8, .ref a9, .ref a10, .ref a11, .ref a12, .int 0, .ref a13, .ref a14, .ref a15, .ref a16, .ref a17, .int 0, .int 0]))]) [0, 1] (by decide) rfl
    exact W.iret (v := (-1)) hx hb hr (fun t ht9 hW => ⟨⟨(-1), (), rfl, rfl, by rw [ht9]; exact hP9, hD9⟩, hS.F ht9⟩) hS.2.2 d_NU_takes_16
  · skip
    refine lv_iload_n hx hb d_NU_takes_4 rfl (lv_at hl 1 rfl) ?_
    refine lv_aload_n hx hb d_NU_takes_5 rfl (lv_at hl 0 rfl) ?_
    refine va_get (D := (dC, dI)) (ci := 0) (v := .ref a2) (C := "NetUnfolder") (T := T_NU) (N := 5) hx hb ht in_NU hown hK hP 0 rfl rfl 1 (by decide) (ht _ wd_2_37) (fun _ h9 => h9) rfl d_NU_takes_6 ?_
    refine va_get (D := (dC, dI)) (ci := 2) (v := .int 0) (C := "NetUnfolder$Prefix") (T := T_Pf) (N := 14) hx hb ht in_Pf hown hK hP 1 rfl rfl 6 (by decide) (ht _ wd_1_85) (fun _ h9 => h9) rfl d_NU_takes_9 ?_
    refine lv_icmp_lt (tgt := 17) hx hb d_NU_takes_12 (by decide) (fun h9 => (by exfalso; have ehb1 := fa_nlt (k := 0) (by decide) hb1; have eh9 := fa_lt (k := 0) (by decide) h9; omega)) (fun _ => ?_)
    refine lv_iconst (v := (-1)) hx hb d_NU_takes_15 (by decide) ?_
    have hP9 := hP.sub (ws' := [(a0, .inr (0, [.ref a1, .ref a2, .ref a3, .ref a4, .ref a5])), (a2, .inr (2, [.int 0, .ref a8, .ref a9, .ref a10, .ref a11, .ref a12, .int 0, .ref a13, .ref a14, .ref a15, .ref a16, .ref a17, .int 0, .int 0]))]) [0, 1] rfl
    have hD9 := hD.sub (ws' := [(a0, .inr (0, [.ref a1, .ref a2, .ref a3, .ref a4, .ref a5])), (a2, .inr (2, [.int 0, .ref a8, .ref a9, .ref a10, .ref a11, .ref a12, .int 0, .ref a13, .ref a14, .ref a15, .ref a16, .ref a17, .int 0, .int 0]))]) [0, 1] (by decide) rfl
    exact W.iret (v := (-1)) hx hb hr (fun t ht9 hW => ⟨⟨(-1), (), rfl, rfl, by rw [ht9]; exact hP9, hD9⟩, hS.F ht9⟩) hS.2.2 d_NU_takes_16

set_option maxHeartbeats 4000000 in
set_option maxRecDepth 100000 in
theorem c_NU_condition (l : Launch) (dC : Nat → ClassId) (dI : Nat → Nat → Nat) (cI cL cZ : ClassId) (sz : Nat) (a0 : Nat) (a2 : Nat) (a1 : Nat) (a3 : Nat) (a4 : Nat) (a5 : Nat) (a8 : Nat) (a9 : Nat) (a10 : Nat) (a11 : Nat) (a12 : Nat) (a13 : Nat) (a14 : Nat) (a15 : Nat) (a16 : Nat) (a17 : Nat) (k0 : Int32) (k1 : Int32) : Met l y_NU_condition (Cond.code y_NU_condition prog_1_method_13_code 3 (some .int) :: wsA) { frames := 0, cells := 0, slots := 0, locals := 0 } (va_Pc [.ref a0, .int k0, .int k1] (fun U => U.heap.size = sz ∧ va_P (dC, dI) clA [(a0, .inr (0, [.ref a1, .ref a2, .ref a3, .ref a4, .ref a5])), (a2, .inr (2, [.int 0, .ref a8, .ref a9, .ref a10, .ref a11, .ref a12, .int 0, .ref a13, .ref a14, .ref a15, .ref a16, .ref a17, .int 0, .int 0]))] U.heap ∧ va_K (dC, dI) clA [(cI, .int), (cL, .long), (cZ, .boolean)] U ∧ va_D (fun _ => True) [(a0, .inr (0, [.ref a1, .ref a2, .ref a3, .ref a4, .ref a5])), (a2, .inr (2, [.int 0, .ref a8, .ref a9, .ref a10, .ref a11, .ref a12, .int 0, .ref a13, .ref a14, .ref a15, .ref a16, .ref a17, .int 0, .int 0]))] ∧ NwA U)) (va_Qi (fun r (_ : Unit) => r = (-1)) (fun _ t => va_P (dC, dI) clA [(a0, .inr (0, [.ref a1, .ref a2, .ref a3, .ref a4, .ref a5])), (a2, .inr (2, [.int 0, .ref a8, .ref a9, .ref a10, .ref a11, .ref a12, .int 0, .ref a13, .ref a14, .ref a15, .ref a16, .ref a17, .int 0, .int 0]))] t.heap ∧ va_D (va_A [(a0, .inr (0, [.ref a1, .ref a2, .ref a3, .ref a4, .ref a5])), (a2, .inr (2, [.int 0, .ref a8, .ref a9, .ref a10, .ref a11, .ref a12, .int 0, .ref a13, .ref a14, .ref a15, .ref a16, .ref a17, .int 0, .int 0]))] sz) [(a0, .inr (0, [.ref a1, .ref a2, .ref a3, .ref a4, .ref a5])), (a2, .inr (2, [.int 0, .ref a8, .ref a9, .ref a10, .ref a11, .ref a12, .int 0, .ref a13, .ref a14, .ref a15, .ref a16, .ref a17, .int 0, .int 0]))]) (va_A [(a0, .inr (0, [.ref a1, .ref a2, .ref a3, .ref a4, .ref a5])), (a2, .inr (2, [.int 0, .ref a8, .ref a9, .ref a10, .ref a11, .ref a12, .int 0, .ref a13, .ref a14, .ref a15, .ref a16, .ref a17, .int 0, .int 0]))] sz)) 0 0 (va_A [(a0, .inr (0, [.ref a1, .ref a2, .ref a3, .ref a4, .ref a5])), (a2, .inr (2, [.int 0, .ref a8, .ref a9, .ref a10, .ref a11, .ref a12, .int 0, .ref a13, .ref a14, .ref a15, .ref a16, .ref a17, .int 0, .int 0]))] sz) := by
  refine Met.ofW (cc := prog_1_method_13_code) (maxL := 3) (ret := (some .int)) (by decide) rfl ?_
  intro p e s m args below meth c s₁ B hml hv
  obtain ⟨rfl, hsz, hP, hK, hD0, hN⟩ := hv
  have hx := B.exec
  have hb := B.bytes
  have hr := B.returns
  have ht : ∀ w ∈ wsA, w.before _ s = true := fun w h => atoms_spec (ws := (Cond.code y_NU_condition prog_1_method_13_code 3 (some .int) :: wsA)) B.pre w (List.mem_cons_of_mem _ h)
  have hown : s.vm.findClass "NetUnfolder" = some m.cls := findClass_of_methodNamed B.named
  have hlocks := B.notSynchronized
  subst hsz
  have hD := hD0.self (sz := s.heap.size)
  generalize hAe : va_A [(a0, .inr (0, [.ref a1, .ref a2, .ref a3, .ref a4, .ref a5])), (a2, .inr (2, [.int 0, .ref a8, .ref a9, .ref a10, .ref a11, .ref a12, .int 0, .ref a13, .ref a14, .ref a15, .ref a16, .ref a17, .int 0, .int 0]))] s.heap.size = A at hD ⊢
  have hA : ∀ q : Nat, s.heap.size ≤ q → A q := fun q h => by rw [← hAe]; exact Or.inr h
  have hS : va_S A s.heap s.heap [] := va_S.rf
  have hl := lv_entry ([.ref a0, .int k0, .int k1]) (n := 3) (Nat.le_of_ble_eq_true rfl)
  rw [lg_entry_eq]
  generalize (lg_sl ([.ref a0, .int k0, .int k1]) ++ List.replicate (3 - (lg_sl ([.ref a0, .int k0, .int k1])).length) Slot.unset).toArray = ls at hl ⊢
  replace hl : lv_has ls 3 [(0, .ref a0), (1, .int k0), (2, .int k1)] := hl
  refine lv_iload_n hx hb d_NU_condition_0 rfl (lv_at hl 1 rfl) ?_
  refine lv_if_lt (tgt := 15) hx hb d_NU_condition_1 (by decide) (fun hb1 => ?_) (fun hb1 => ?_)
  · skip
    refine lv_iconst (v := (-1)) hx hb d_NU_condition_15 (by decide) ?_
    have hP9 := hP.sub (ws' := [(a0, .inr (0, [.ref a1, .ref a2, .ref a3, .ref a4, .ref a5])), (a2, .inr (2, [.int 0, .ref a8, .ref a9, .ref a10, .ref a11, .ref a12, .int 0, .ref a13, .ref a14, .ref a15, .ref a16, .ref a17, .int 0, .int 0]))]) [0, 1] rfl
    have hD9 := hD.sub (ws' := [(a0, .inr (0, [.ref a1, .ref a2, .ref a3, .ref a4, .ref a5])), (a2, .inr (2, [.int 0, .ref a8, .ref a9, .ref a10, .ref a11, .ref a12, .int 0, .ref a13, .ref a14, .ref a15, .ref a16, .ref a17, .int 0, .int 0]))]) [0, 1] (by decide) rfl
    exact W.iret (v := (-1)) hx hb hr (fun t ht9 hW => ⟨⟨(-1), (), rfl, rfl, by rw [ht9]; exact hP9, hD9⟩, hS.F ht9⟩) hS.2.2 d_NU_condition_16
  · skip
    refine lv_iload_n hx hb d_NU_condition_4 rfl (lv_at hl 1 rfl) ?_
    refine lv_aload_n hx hb d_NU_condition_5 rfl (lv_at hl 0 rfl) ?_
    refine va_get (D := (dC, dI)) (ci := 0) (v := .ref a2) (C := "NetUnfolder") (T := T_NU) (N := 5) hx hb ht in_NU hown hK hP 0 rfl rfl 1 (by decide) (ht _ wd_2_37) (fun _ h9 => h9) rfl d_NU_condition_6 ?_
    refine va_get (D := (dC, dI)) (ci := 2) (v := .int 0) (C := "NetUnfolder$Prefix") (T := T_Pf) (N := 14) hx hb ht in_Pf hown hK hP 1 rfl rfl 0 (by decide) (ht _ wd_1_65) (fun _ h9 => h9) rfl d_NU_condition_9 ?_
    refine lv_icmp_lt (tgt := 17) hx hb d_NU_condition_12 (by decide) (fun h9 => (by exfalso; have ehb1 := fa_nlt (k := 0) (by decide) hb1; have eh9 := fa_lt (k := 0) (by decide) h9; omega)) (fun _ => ?_)
    refine lv_iconst (v := (-1)) hx hb d_NU_condition_15 (by decide) ?_
    have hP9 := hP.sub (ws' := [(a0, .inr (0, [.ref a1, .ref a2, .ref a3, .ref a4, .ref a5])), (a2, .inr (2, [.int 0, .ref a8, .ref a9, .ref a10, .ref a11, .ref a12, .int 0, .ref a13, .ref a14, .ref a15, .ref a16, .ref a17, .int 0, .int 0]))]) [0, 1] rfl
    have hD9 := hD.sub (ws' := [(a0, .inr (0, [.ref a1, .ref a2, .ref a3, .ref a4, .ref a5])), (a2, .inr (2, [.int 0, .ref a8, .ref a9, .ref a10, .ref a11, .ref a12, .int 0, .ref a13, .ref a14, .ref a15, .ref a16, .ref a17, .int 0, .int 0]))]) [0, 1] (by decide) rfl
    exact W.iret (v := (-1)) hx hb hr (fun t ht9 hW => ⟨⟨(-1), (), rfl, rfl, by rw [ht9]; exact hP9, hD9⟩, hS.F ht9⟩) hS.2.2 d_NU_condition_16

set_option maxHeartbeats 4000000 in
set_option maxRecDepth 100000 in
theorem c_NU_concurrent (l : Launch) (dC : Nat → ClassId) (dI : Nat → Nat → Nat) (cI cL cZ : ClassId) (sz : Nat) (a0 : Nat) (a2 : Nat) (a1 : Nat) (a3 : Nat) (a4 : Nat) (a5 : Nat) (a8 : Nat) (a9 : Nat) (a10 : Nat) (a11 : Nat) (a12 : Nat) (a13 : Nat) (a14 : Nat) (a15 : Nat) (a16 : Nat) (a17 : Nat) (k0 : Int32) (k1 : Int32) : Met l y_NU_concurrent (Cond.code y_NU_concurrent prog_1_method_14_code 3 (some .boolean) :: wsA) { frames := 0, cells := 0, slots := 0, locals := 0 } (va_Pc [.ref a0, .int k0, .int k1] (fun U => U.heap.size = sz ∧ va_P (dC, dI) clA [(a0, .inr (0, [.ref a1, .ref a2, .ref a3, .ref a4, .ref a5])), (a2, .inr (2, [.int 0, .ref a8, .ref a9, .ref a10, .ref a11, .ref a12, .int 0, .ref a13, .ref a14, .ref a15, .ref a16, .ref a17, .int 0, .int 0]))] U.heap ∧ va_K (dC, dI) clA [(cI, .int), (cL, .long), (cZ, .boolean)] U ∧ va_D (fun _ => True) [(a0, .inr (0, [.ref a1, .ref a2, .ref a3, .ref a4, .ref a5])), (a2, .inr (2, [.int 0, .ref a8, .ref a9, .ref a10, .ref a11, .ref a12, .int 0, .ref a13, .ref a14, .ref a15, .ref a16, .ref a17, .int 0, .int 0]))] ∧ NwA U)) (va_Qi (fun r (_ : Unit) => r = 0) (fun _ t => va_P (dC, dI) clA [(a0, .inr (0, [.ref a1, .ref a2, .ref a3, .ref a4, .ref a5])), (a2, .inr (2, [.int 0, .ref a8, .ref a9, .ref a10, .ref a11, .ref a12, .int 0, .ref a13, .ref a14, .ref a15, .ref a16, .ref a17, .int 0, .int 0]))] t.heap ∧ va_D (va_A [(a0, .inr (0, [.ref a1, .ref a2, .ref a3, .ref a4, .ref a5])), (a2, .inr (2, [.int 0, .ref a8, .ref a9, .ref a10, .ref a11, .ref a12, .int 0, .ref a13, .ref a14, .ref a15, .ref a16, .ref a17, .int 0, .int 0]))] sz) [(a0, .inr (0, [.ref a1, .ref a2, .ref a3, .ref a4, .ref a5])), (a2, .inr (2, [.int 0, .ref a8, .ref a9, .ref a10, .ref a11, .ref a12, .int 0, .ref a13, .ref a14, .ref a15, .ref a16, .ref a17, .int 0, .int 0]))]) (va_A [(a0, .inr (0, [.ref a1, .ref a2, .ref a3, .ref a4, .ref a5])), (a2, .inr (2, [.int 0, .ref a8, .ref a9, .ref a10, .ref a11, .ref a12, .int 0, .ref a13, .ref a14, .ref a15, .ref a16, .ref a17, .int 0, .int 0]))] sz)) 0 0 (va_A [(a0, .inr (0, [.ref a1, .ref a2, .ref a3, .ref a4, .ref a5])), (a2, .inr (2, [.int 0, .ref a8, .ref a9, .ref a10, .ref a11, .ref a12, .int 0, .ref a13, .ref a14, .ref a15, .ref a16, .ref a17, .int 0, .int 0]))] sz) := by
  refine Met.ofW (cc := prog_1_method_14_code) (maxL := 3) (ret := (some .boolean)) (by decide) rfl ?_
  intro p e s m args below meth c s₁ B hml hv
  obtain ⟨rfl, hsz, hP, hK, hD0, hN⟩ := hv
  have hx := B.exec
  have hb := B.bytes
  have hr := B.returns
  have ht : ∀ w ∈ wsA, w.before _ s = true := fun w h => atoms_spec (ws := (Cond.code y_NU_concurrent prog_1_method_14_code 3 (some .boolean) :: wsA)) B.pre w (List.mem_cons_of_mem _ h)
  have hown : s.vm.findClass "NetUnfolder" = some m.cls := findClass_of_methodNamed B.named
  have hlocks := B.notSynchronized
  subst hsz
  have hD := hD0.self (sz := s.heap.size)
  generalize hAe : va_A [(a0, .inr (0, [.ref a1, .ref a2, .ref a3, .ref a4, .ref a5])), (a2, .inr (2, [.int 0, .ref a8, .ref a9, .ref a10, .ref a11, .ref a12, .int 0, .ref a13, .ref a14, .ref a15, .ref a16, .ref a17, .int 0, .int 0]))] s.heap.size = A at hD ⊢
  have hA : ∀ q : Nat, s.heap.size ≤ q → A q := fun q h => by rw [← hAe]; exact Or.inr h
  have hS : va_S A s.heap s.heap [] := va_S.rf
  have hl := lv_entry ([.ref a0, .int k0, .int k1]) (n := 3) (Nat.le_of_ble_eq_true rfl)
  rw [lg_entry_eq]
  generalize (lg_sl ([.ref a0, .int k0, .int k1]) ++ List.replicate (3 - (lg_sl ([.ref a0, .int k0, .int k1])).length) Slot.unset).toArray = ls at hl ⊢
  replace hl : lv_has ls 3 [(0, .ref a0), (1, .int k0), (2, .int k1)] := hl
  refine lv_iload_n hx hb d_NU_concurrent_0 rfl (lv_at hl 1 rfl) ?_
  refine lv_if_lt (tgt := 30) hx hb d_NU_concurrent_1 (by decide) (fun hb1 => ?_) (fun hb1 => ?_)
  · skip
    refine lv_iconst (v := 0) hx hb d_NU_concurrent_30 (by decide) ?_
    have hP9 := hP.sub (ws' := [(a0, .inr (0, [.ref a1, .ref a2, .ref a3, .ref a4, .ref a5])), (a2, .inr (2, [.int 0, .ref a8, .ref a9, .ref a10, .ref a11, .ref a12, .int 0, .ref a13, .ref a14, .ref a15, .ref a16, .ref a17, .int 0, .int 0]))]) [0, 1] rfl
    have hD9 := hD.sub (ws' := [(a0, .inr (0, [.ref a1, .ref a2, .ref a3, .ref a4, .ref a5])), (a2, .inr (2, [.int 0, .ref a8, .ref a9, .ref a10, .ref a11, .ref a12, .int 0, .ref a13, .ref a14, .ref a15, .ref a16, .ref a17, .int 0, .int 0]))]) [0, 1] (by decide) rfl
    exact W.zret (v := 0) hx hb hr rfl (fun t ht9 hW => ⟨⟨0, (), rfl, rfl, by rw [ht9]; exact hP9, hD9⟩, hS.F ht9⟩) hS.2.2 d_NU_concurrent_31
  · skip
    refine lv_iload_n hx hb d_NU_concurrent_4 rfl (lv_at hl 1 rfl) ?_
    refine lv_aload_n hx hb d_NU_concurrent_5 rfl (lv_at hl 0 rfl) ?_
    refine va_get (D := (dC, dI)) (ci := 0) (v := .ref a2) (C := "NetUnfolder") (T := T_NU) (N := 5) hx hb ht in_NU hown hK hP 0 rfl rfl 1 (by decide) (ht _ wd_2_37) (fun _ h9 => h9) rfl d_NU_concurrent_6 ?_
    refine va_get (D := (dC, dI)) (ci := 2) (v := .int 0) (C := "NetUnfolder$Prefix") (T := T_Pf) (N := 14) hx hb ht in_Pf hown hK hP 1 rfl rfl 0 (by decide) (ht _ wd_1_65) (fun _ h9 => h9) rfl d_NU_concurrent_9 ?_
    refine lv_icmp_ge (tgt := 30) hx hb d_NU_concurrent_12 (by decide) (fun _ => ?_) (fun h9 => (by exfalso; have ehb1 := fa_nlt (k := 0) (by decide) hb1; have eh9 := fb_nle (k := 0) (by decide) h9; omega))
    refine lv_iconst (v := 0) hx hb d_NU_concurrent_30 (by decide) ?_
    have hP9 := hP.sub (ws' := [(a0, .inr (0, [.ref a1, .ref a2, .ref a3, .ref a4, .ref a5])), (a2, .inr (2, [.int 0, .ref a8, .ref a9, .ref a10, .ref a11, .ref a12, .int 0, .ref a13, .ref a14, .ref a15, .ref a16, .ref a17, .int 0, .int 0]))]) [0, 1] rfl
    have hD9 := hD.sub (ws' := [(a0, .inr (0, [.ref a1, .ref a2, .ref a3, .ref a4, .ref a5])), (a2, .inr (2, [.int 0, .ref a8, .ref a9, .ref a10, .ref a11, .ref a12, .int 0, .ref a13, .ref a14, .ref a15, .ref a16, .ref a17, .int 0, .int 0]))]) [0, 1] (by decide) rfl
    exact W.zret (v := 0) hx hb hr rfl (fun t ht9 hW => ⟨⟨0, (), rfl, rfl, by rw [ht9]; exact hP9, hD9⟩, hS.F ht9⟩) hS.2.2 d_NU_concurrent_31
