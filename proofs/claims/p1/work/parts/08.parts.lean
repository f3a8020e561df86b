set_option maxHeartbeats 4000000 in
set_option maxRecDepth 100000 in
theorem c_Ar_fill_8 (l : Launch) (dC : Nat → ClassId) (dI : Nat → Nat → Nat) (cI cL cZ : ClassId) (sz : Nat) (h0 : Nat) : Met l y_Ar_fill (Cond.code y_Ar_fill prog_19_method_101_code 5 none :: wsA) { frames := 0, cells := 0, slots := 0, locals := 0 } (va_Pc [.ref h0, .long 0] (fun U => U.heap.size = sz ∧ va_P (dC, dI) clA [(h0, .inl (cL, 8, .inr (.inl (fun _ => 0))))] U.heap ∧ va_K (dC, dI) clA [(cI, .int), (cL, .long), (cZ, .boolean)] U ∧ va_D (fun _ => True) [(h0, .inl (cL, 8, .inr (.inl (fun _ => 0))))] ∧ NwA U)) (va_Qv (fun _ : Unit => True) (fun _ t => va_P (dC, dI) clA [(h0, .inl (cL, 8, .inr (.inl (fun _ => 0))))] t.heap ∧ va_D (va_A [(h0, .inl (cL, 8, .inr (.inl (fun _ => 0))))] sz) [(h0, .inl (cL, 8, .inr (.inl (fun _ => 0))))]) (va_A [(h0, .inl (cL, 8, .inr (.inl (fun _ => 0))))] sz)) 0 0 (va_A [(h0, .inl (cL, 8, .inr (.inl (fun _ => 0))))] sz) := by
  refine Met.ofW (cc := prog_19_method_101_code) (maxL := 5) (ret := none) (by decide) rfl ?_
  intro p e s m args below meth c s₁ B hml hv
  obtain ⟨rfl, hsz, hP, hK, hD0, hN⟩ := hv
  have hx := B.exec
  have hb := B.bytes
  have hr := B.returns
  have ht : ∀ w ∈ wsA, w.before _ s = true := fun w h => atoms_spec (ws := (Cond.code y_Ar_fill prog_19_method_101_code 5 none :: wsA)) B.pre w (List.mem_cons_of_mem _ h)
  have hown : s.vm.findClass "java/util/Arrays" = some m.cls := findClass_of_methodNamed B.named
  have hlocks := B.notSynchronized
  subst hsz
  have hD := hD0.self (sz := s.heap.size)
  generalize hAe : va_A [(h0, .inl (cL, 8, .inr (.inl (fun _ => 0))))] s.heap.size = A at hD ⊢
  have hA : ∀ q : Nat, s.heap.size ≤ q → A q := fun q h => by rw [← hAe]; exact Or.inr h
  have hS : va_S A s.heap s.heap [] := va_S.rf
  have hl := lv_entry ([.ref h0, .long 0]) (n := 5) (Nat.le_of_ble_eq_true rfl)
  rw [lg_entry_eq]
  generalize (lg_sl ([.ref h0, .long 0]) ++ List.replicate (5 - (lg_sl ([.ref h0, .long 0])).length) Slot.unset).toArray = ls at hl ⊢
  replace hl : lv_has ls 5 [(0, .ref h0), (1, .long 0)] := hl
  refine lv_iconst (v := 0) hx hb d_Ar_fill_0 (by decide) ?_
  refine lv_istore_n (lv' := [(3, .int 0), (0, .ref h0), (1, .long 0)]) hx hb d_Ar_fill_1 rfl hl (by decide) rfl (fun ls hln => ?_)
  replace hl : lv_has ls 5 [(3, .int 0), (0, .ref h0), (1, .long 0)] := hln
  clear hln
  refine lv_aload_n hx hb d_Ar_fill_2 rfl (lv_at hl 1 rfl) ?_
  refine va_alen hx hb hK hP 0 1 rfl rfl (v := 8) (by decide) d_Ar_fill_3 ?_
  refine lv_istore (lv' := [(4, .int 8), (3, .int 0), (0, .ref h0), (1, .long 0)]) hx hb d_Ar_fill_4 hl (by decide) rfl (fun ls hln => ?_)
  replace hl : lv_has ls 5 [(4, .int 8), (3, .int 0), (0, .ref h0), (1, .long 0)] := hln
  clear hln
  refine lv_iload_n hx hb d_Ar_fill_6 rfl (lv_at hl 1 rfl) ?_
  refine lv_iload hx hb d_Ar_fill_7 (lv_at hl 0 rfl) ?_
  refine lv_icmp_ge (tgt := 22) hx hb d_Ar_fill_9 (by decide) (fun h => absurd h (by decide)) (fun _ => ?_)
  refine lv_aload_n hx hb d_Ar_fill_12 rfl (lv_at hl 2 rfl) ?_
  refine lv_iload_n hx hb d_Ar_fill_13 rfl (lv_at hl 1 rfl) ?_
  refine lv_lload_n hx hb d_Ar_fill_14 rfl (lv_at hl 3 rfl) ?_
  refine va_last hx hb hK hP hD hS 0 1 rfl rfl (by unfold vp_in; decide) d_Ar_fill_15 (fun H1 locs hPn hDn hSn => ?_)
  rw [up_L0] at hPn hDn
  replace hP : va_P (dC, dI) clA [(h0, .inl (cL, 8, .inr (.inl (fun _ => 0))))] H1 := hPn
  replace hD : va_D A [(h0, .inl (cL, 8, .inr (.inl (fun _ => 0))))] := hDn
  replace hS := hSn
  clear hPn hDn hSn
  refine lv_iinc (k := 1) (v := 1) (lv' := [(3, .int 1), (4, .int 8), (0, .ref h0), (1, .long 0)]) hx hb d_Ar_fill_16 hl rfl (by decide) (by decide) rfl (fun ls hln => ?_)
  replace hl : lv_has ls 5 [(3, .int 1), (4, .int 8), (0, .ref h0), (1, .long 0)] := hln
  clear hln
  refine lv_goto (tgt := 6) hx hb d_Ar_fill_19 (by decide) ?_
  refine lv_iload_n hx hb d_Ar_fill_6 rfl (lv_at hl 0 rfl) ?_
  refine lv_iload hx hb d_Ar_fill_7 (lv_at hl 1 rfl) ?_
  refine lv_icmp_ge (tgt := 22) hx hb d_Ar_fill_9 (by decide) (fun h => absurd h (by decide)) (fun _ => ?_)
  refine lv_aload_n hx hb d_Ar_fill_12 rfl (lv_at hl 2 rfl) ?_
  refine lv_iload_n hx hb d_Ar_fill_13 rfl (lv_at hl 0 rfl) ?_
  refine lv_lload_n hx hb d_Ar_fill_14 rfl (lv_at hl 3 rfl) ?_
  refine va_last hx hb hK hP hD hS 0 1 rfl rfl (by unfold vp_in; decide) d_Ar_fill_15 (fun H2 locs hPn hDn hSn => ?_)
  rw [up_L0] at hPn hDn
  replace hP : va_P (dC, dI) clA [(h0, .inl (cL, 8, .inr (.inl (fun _ => 0))))] H2 := hPn
  replace hD : va_D A [(h0, .inl (cL, 8, .inr (.inl (fun _ => 0))))] := hDn
  replace hS := hSn
  clear hPn hDn hSn
  refine lv_iinc (k := 0) (v := 2) (lv' := [(3, .int 2), (4, .int 8), (0, .ref h0), (1, .long 0)]) hx hb d_Ar_fill_16 hl rfl (by decide) (by decide) rfl (fun ls hln => ?_)
  replace hl : lv_has ls 5 [(3, .int 2), (4, .int 8), (0, .ref h0), (1, .long 0)] := hln
  clear hln
  refine lv_goto (tgt := 6) hx hb d_Ar_fill_19 (by decide) ?_
  refine lv_iload_n hx hb d_Ar_fill_6 rfl (lv_at hl 0 rfl) ?_
  refine lv_iload hx hb d_Ar_fill_7 (lv_at hl 1 rfl) ?_
  refine lv_icmp_ge (tgt := 22) hx hb d_Ar_fill_9 (by decide) (fun h => absurd h (by decide)) (fun _ => ?_)
  refine lv_aload_n hx hb d_Ar_fill_12 rfl (lv_at hl 2 rfl) ?_
  refine lv_iload_n hx hb d_Ar_fill_13 rfl (lv_at hl 0 rfl) ?_
  refine lv_lload_n hx hb d_Ar_fill_14 rfl (lv_at hl 3 rfl) ?_
  refine va_last hx hb hK hP hD hS 0 1 rfl rfl (by unfold vp_in; decide) d_Ar_fill_15 (fun H3 locs hPn hDn hSn => ?_)
  rw [up_L0] at hPn hDn
  replace hP : va_P (dC, dI) clA [(h0, .inl (cL, 8, .inr (.inl (fun _ => 0))))] H3 := hPn
  replace hD : va_D A [(h0, .inl (cL, 8, .inr (.inl (fun _ => 0))))] := hDn
  replace hS := hSn
  clear hPn hDn hSn
  refine lv_iinc (k := 0) (v := 3) (lv' := [(3, .int 3), (4, .int 8), (0, .ref h0), (1, .long 0)]) hx hb d_Ar_fill_16 hl rfl (by decide) (by decide) rfl (fun ls hln => ?_)
  replace hl : lv_has ls 5 [(3, .int 3), (4, .int 8), (0, .ref h0), (1, .long 0)] := hln
  clear hln
  refine lv_goto (tgt := 6) hx hb d_Ar_fill_19 (by decide) ?_
  refine lv_iload_n hx hb d_Ar_fill_6 rfl (lv_at hl 0 rfl) ?_
  refine lv_iload hx hb d_Ar_fill_7 (lv_at hl 1 rfl) ?_
  refine lv_icmp_ge (tgt := 22) hx hb d_Ar_fill_9 (by decide) (fun h => absurd h (by decide)) (fun _ => ?_)
  refine lv_aload_n hx hb d_Ar_fill_12 rfl (lv_at hl 2 rfl) ?_
  refine lv_iload_n hx hb d_Ar_fill_13 rfl (lv_at hl 0 rfl) ?_
  refine lv_lload_n hx hb d_Ar_fill_14 rfl (lv_at hl 3 rfl) ?_
  refine va_last hx hb hK hP hD hS 0 1 rfl rfl (by unfold vp_in; decide) d_Ar_fill_15 (fun H4 locs hPn hDn hSn => ?_)
  rw [up_L0] at hPn hDn
  replace hP : va_P (dC, dI) clA [(h0, .inl (cL, 8, .inr (.inl (fun _ => 0))))] H4 := hPn
  replace hD : va_D A [(h0, .inl (cL, 8, .inr (.inl (fun _ => 0))))] := hDn
  replace hS := hSn
  clear hPn hDn hSn
  refine lv_iinc (k := 0) (v := 4) (lv' := [(3, .int 4), (4, .int 8), (0, .ref h0), (1, .long 0)]) hx hb d_Ar_fill_16 hl rfl (by decide) (by decide) rfl (fun ls hln => ?_)
  replace hl : lv_has ls 5 [(3, .int 4), (4, .int 8), (0, .ref h0), (1, .long 0)] := hln
  clear hln
  refine lv_goto (tgt := 6) hx hb d_Ar_fill_19 (by decide) ?_
  refine lv_iload_n hx hb d_Ar_fill_6 rfl (lv_at hl 0 rfl) ?_
  refine lv_iload hx hb d_Ar_fill_7 (lv_at hl 1 rfl) ?_
  refine lv_icmp_ge (tgt := 22) hx hb d_Ar_fill_9 (by decide) (fun h => absurd h (by decide)) (fun _ => ?_)
  refine lv_aload_n hx hb d_Ar_fill_12 rfl (lv_at hl 2 rfl) ?_
  refine lv_iload_n hx hb d_Ar_fill_13 rfl (lv_at hl 0 rfl) ?_
  refine lv_lload_n hx hb d_Ar_fill_14 rfl (lv_at hl 3 rfl) ?_
  refine va_last hx hb hK hP hD hS 0 1 rfl rfl (by unfold vp_in; decide) d_Ar_fill_15 (fun H5 locs hPn hDn hSn => ?_)
  rw [up_L0] at hPn hDn
  replace hP : va_P (dC, dI) clA [(h0, .inl (cL, 8, .inr (.inl (fun _ => 0))))] H5 := hPn
  replace hD : va_D A [(h0, .inl (cL, 8, .inr (.inl (fun _ => 0))))] := hDn
  replace hS := hSn
  clear hPn hDn hSn
  refine lv_iinc (k := 0) (v := 5) (lv' := [(3, .int 5), (4, .int 8), (0, .ref h0), (1, .long 0)]) hx hb d_Ar_fill_16 hl rfl (by decide) (by decide) rfl (fun ls hln => ?_)
  replace hl : lv_has ls 5 [(3, .int 5), (4, .int 8), (0, .ref h0), (1, .long 0)] := hln
  clear hln
  refine lv_goto (tgt := 6) hx hb d_Ar_fill_19 (by decide) ?_
  refine lv_iload_n hx hb d_Ar_fill_6 rfl (lv_at hl 0 rfl) ?_
  refine lv_iload hx hb d_Ar_fill_7 (lv_at hl 1 rfl) ?_
  refine lv_icmp_ge (tgt := 22) hx hb d_Ar_fill_9 (by decide) (fun h => absurd h (by decide)) (fun _ => ?_)
  refine lv_aload_n hx hb d_Ar_fill_12 rfl (lv_at hl 2 rfl) ?_
  refine lv_iload_n hx hb d_Ar_fill_13 rfl (lv_at hl 0 rfl) ?_
  refine lv_lload_n hx hb d_Ar_fill_14 rfl (lv_at hl 3 rfl) ?_
  refine va_last hx hb hK hP hD hS 0 1 rfl rfl (by unfold vp_in; decide) d_Ar_fill_15 (fun H6 locs hPn hDn hSn => ?_)
  rw [up_L0] at hPn hDn
  replace hP : va_P (dC, dI) clA [(h0, .inl (cL, 8, .inr (.inl (fun _ => 0))))] H6 := hPn
  replace hD : va_D A [(h0, .inl (cL, 8, .inr (.inl (fun _ => 0))))] := hDn
  replace hS := hSn
  clear hPn hDn hSn
  refine lv_iinc (k := 0) (v := 6) (lv' := [(3, .int 6), (4, .int 8), (0, .ref h0), (1, .long 0)]) hx hb d_Ar_fill_16 hl rfl (by decide) (by decide) rfl (fun ls hln => ?_)
  replace hl : lv_has ls 5 [(3, .int 6), (4, .int 8), (0, .ref h0), (1, .long 0)] := hln
  clear hln
  refine lv_goto (tgt := 6) hx hb d_Ar_fill_19 (by decide) ?_
  refine lv_iload_n hx hb d_Ar_fill_6 rfl (lv_at hl 0 rfl) ?_
  refine lv_iload hx hb d_Ar_fill_7 (lv_at hl 1 rfl) ?_
  refine lv_icmp_ge (tgt := 22) hx hb d_Ar_fill_9 (by decide) (fun h => absurd h (by decide)) (fun _ => ?_)
  refine lv_aload_n hx hb d_Ar_fill_12 rfl (lv_at hl 2 rfl) ?_
  refine lv_iload_n hx hb d_Ar_fill_13 rfl (lv_at hl 0 rfl) ?_
  refine lv_lload_n hx hb d_Ar_fill_14 rfl (lv_at hl 3 rfl) ?_
  refine va_last hx hb hK hP hD hS 0 1 rfl rfl (by unfold vp_in; decide) d_Ar_fill_15 (fun H7 locs hPn hDn hSn => ?_)
  rw [up_L0] at hPn hDn
  replace hP : va_P (dC, dI) clA [(h0, .inl (cL, 8, .inr (.inl (fun _ => 0))))] H7 := hPn
  replace hD : va_D A [(h0, .inl (cL, 8, .inr (.inl (fun _ => 0))))] := hDn
  replace hS := hSn
  clear hPn hDn hSn
  refine lv_iinc (k := 0) (v := 7) (lv' := [(3, .int 7), (4, .int 8), (0, .ref h0), (1, .long 0)]) hx hb d_Ar_fill_16 hl rfl (by decide) (by decide) rfl (fun ls hln => ?_)
  replace hl : lv_has ls 5 [(3, .int 7), (4, .int 8), (0, .ref h0), (1, .long 0)] := hln
  clear hln
  refine lv_goto (tgt := 6) hx hb d_Ar_fill_19 (by decide) ?_
  refine lv_iload_n hx hb d_Ar_fill_6 rfl (lv_at hl 0 rfl) ?_
  refine lv_iload hx hb d_Ar_fill_7 (lv_at hl 1 rfl) ?_
  refine lv_icmp_ge (tgt := 22) hx hb d_Ar_fill_9 (by decide) (fun h => absurd h (by decide)) (fun _ => ?_)
  refine lv_aload_n hx hb d_Ar_fill_12 rfl (lv_at hl 2 rfl) ?_
  refine lv_iload_n hx hb d_Ar_fill_13 rfl (lv_at hl 0 rfl) ?_
  refine lv_lload_n hx hb d_Ar_fill_14 rfl (lv_at hl 3 rfl) ?_
  refine va_last hx hb hK hP hD hS 0 1 rfl rfl (by unfold vp_in; decide) d_Ar_fill_15 (fun H8 locs hPn hDn hSn => ?_)
  rw [up_L0] at hPn hDn
  replace hP : va_P (dC, dI) clA [(h0, .inl (cL, 8, .inr (.inl (fun _ => 0))))] H8 := hPn
  replace hD : va_D A [(h0, .inl (cL, 8, .inr (.inl (fun _ => 0))))] := hDn
  replace hS := hSn
  clear hPn hDn hSn
  refine lv_iinc (k := 0) (v := 8) (lv' := [(3, .int 8), (4, .int 8), (0, .ref h0), (1, .long 0)]) hx hb d_Ar_fill_16 hl rfl (by decide) (by decide) rfl (fun ls hln => ?_)
  replace hl : lv_has ls 5 [(3, .int 8), (4, .int 8), (0, .ref h0), (1, .long 0)] := hln
  clear hln
  refine lv_goto (tgt := 6) hx hb d_Ar_fill_19 (by decide) ?_
  refine lv_iload_n hx hb d_Ar_fill_6 rfl (lv_at hl 0 rfl) ?_
  refine lv_iload hx hb d_Ar_fill_7 (lv_at hl 1 rfl) ?_
  refine lv_icmp_ge (tgt := 22) hx hb d_Ar_fill_9 (by decide) (fun _ => ?_) (fun h => (h (by decide)).elim)
  have hP9 := hP.sub (ws' := [(h0, .inl (cL, 8, .inr (.inl (fun _ => 0))))]) [0] rfl
  have hD9 := hD.sub (ws' := [(h0, .inl (cL, 8, .inr (.inl (fun _ => 0))))]) [0] (by decide) rfl
  exact W.vret hx hb hr (fun t ht9 hW => ⟨⟨(), rfl, trivial, by rw [ht9]; exact hP9, hD9⟩, hS.F ht9⟩) hS.2.2 d_Ar_fill_22

set_option maxHeartbeats 4000000 in
set_option maxRecDepth 100000 in
theorem c_Pf_wipe (l : Launch) (dC : Nat → ClassId) (dI : Nat → Nat → Nat) (cI cL cZ : ClassId) (sz : Nat) (a2 : Nat) (a12 : Nat) (a8 : Nat) (a9 : Nat) (a10 : Nat) (a11 : Nat) (a13 : Nat) (a14 : Nat) (a15 : Nat) (a16 : Nat) (a17 : Nat) : Met l y_Pf_wipe (Cond.code y_Pf_wipe prog_5_method_2_code 1 none :: wsA) { frames := 1, cells := 0, slots := 0, locals := 24 } (va_Pc [.ref a2] (fun U => U.heap.size = sz ∧ va_P (dC, dI) clA [(a2, .inr (2, [.int 0, .ref a8, .ref a9, .ref a10, .ref a11, .ref a12, .int 0, .ref a13, .ref a14, .ref a15, .ref a16, .ref a17, .int 0, .int 0])), (a12, .inl (cL, 8, .inr (.inl (fun _ => 0))))] U.heap ∧ va_K (dC, dI) clA [(cI, .int), (cL, .long), (cZ, .boolean)] U ∧ va_D (fun _ => True) [(a2, .inr (2, [.int 0, .ref a8, .ref a9, .ref a10, .ref a11, .ref a12, .int 0, .ref a13, .ref a14, .ref a15, .ref a16, .ref a17, .int 0, .int 0])), (a12, .inl (cL, 8, .inr (.inl (fun _ => 0))))] ∧ NwA U)) (va_Qv (fun _ : Unit => True) (fun _ t => va_P (dC, dI) clA [(a2, .inr (2, [.int 0, .ref a8, .ref a9, .ref a10, .ref a11, .ref a12, .int 0, .ref a13, .ref a14, .ref a15, .ref a16, .ref a17, .int 0, .int 0])), (a12, .inl (cL, 8, .inr (.inl (fun _ => 0))))] t.heap ∧ va_D (va_A [(a2, .inr (2, [.int 0, .ref a8, .ref a9, .ref a10, .ref a11, .ref a12, .int 0, .ref a13, .ref a14, .ref a15, .ref a16, .ref a17, .int 0, .int 0])), (a12, .inl (cL, 8, .inr (.inl (fun _ => 0))))] sz) [(a2, .inr (2, [.int 0, .ref a8, .ref a9, .ref a10, .ref a11, .ref a12, .int 0, .ref a13, .ref a14, .ref a15, .ref a16, .ref a17, .int 0, .int 0])), (a12, .inl (cL, 8, .inr (.inl (fun _ => 0))))]) (va_A [(a2, .inr (2, [.int 0, .ref a8, .ref a9, .ref a10, .ref a11, .ref a12, .int 0, .ref a13, .ref a14, .ref a15, .ref a16, .ref a17, .int 0, .int 0])), (a12, .inl (cL, 8, .inr (.inl (fun _ => 0))))] sz)) 0 0 (va_A [(a2, .inr (2, [.int 0, .ref a8, .ref a9, .ref a10, .ref a11, .ref a12, .int 0, .ref a13, .ref a14, .ref a15, .ref a16, .ref a17, .int 0, .int 0])), (a12, .inl (cL, 8, .inr (.inl (fun _ => 0))))] sz) := by
  refine Met.ofW (cc := prog_5_method_2_code) (maxL := 1) (ret := none) (by decide) rfl ?_
  intro p e s m args below meth c s₁ B hml hv
  obtain ⟨rfl, hsz, hP, hK, hD0, hN⟩ := hv
  have hx := B.exec
  have hb := B.bytes
  have hr := B.returns
  have ht : ∀ w ∈ wsA, w.before _ s = true := fun w h => atoms_spec (ws := (Cond.code y_Pf_wipe prog_5_method_2_code 1 none :: wsA)) B.pre w (List.mem_cons_of_mem _ h)
  have hown : s.vm.findClass "NetUnfolder$Prefix" = some m.cls := findClass_of_methodNamed B.named
  have hlocks := B.notSynchronized
  subst hsz
  have hD := hD0.self (sz := s.heap.size)
  generalize hAe : va_A [(a2, .inr (2, [.int 0, .ref a8, .ref a9, .ref a10, .ref a11, .ref a12, .int 0, .ref a13, .ref a14, .ref a15, .ref a16, .ref a17, .int 0, .int 0])), (a12, .inl (cL, 8, .inr (.inl (fun _ => 0))))] s.heap.size = A at hD ⊢
  have hA : ∀ q : Nat, s.heap.size ≤ q → A q := fun q h => by rw [← hAe]; exact Or.inr h
  have hS : va_S A s.heap s.heap [] := va_S.rf
  have hl := lv_entry ([.ref a2]) (n := 1) (Nat.le_of_ble_eq_true rfl)
  rw [lg_entry_eq]
  generalize (lg_sl ([.ref a2]) ++ List.replicate (1 - (lg_sl ([.ref a2])).length) Slot.unset).toArray = ls at hl ⊢
  replace hl : lv_has ls 1 [(0, .ref a2)] := hl
  refine lv_aload_n hx hb d_Pf_wipe_0 rfl (lv_at hl 0 rfl) ?_
  refine lv_iconst (v := 0) hx hb d_Pf_wipe_1 (by decide) ?_
  refine va_put (D := (dC, dI)) (ci := 2) (v := .int 0) (ty := .int) (C := "NetUnfolder$Prefix") (T := T_Pf) (N := 14) hx hb ht in_Pf ty_Pf ok_Pf nm_Pf hown hK hP hD hS 0 rfl rfl 0 (by decide) (ht _ wd_1_62) (fun _ h9 => h9) rfl (by decide +kernel) rfl rfl (Nat.le_of_ble_eq_true rfl) d_Pf_wipe_2 (fun H1 locs hPn hDn hSn => ?_)
  replace hP : va_P (dC, dI) clA [(a2, .inr (2, [.int 0, .ref a8, .ref a9, .ref a10, .ref a11, .ref a12, .int 0, .ref a13, .ref a14, .ref a15, .ref a16, .ref a17, .int 0, .int 0])), (a12, .inl (cL, 8, .inr (.inl (fun _ => 0))))] H1 := hPn
  replace hD : va_D A [(a2, .inr (2, [.int 0, .ref a8, .ref a9, .ref a10, .ref a11, .ref a12, .int 0, .ref a13, .ref a14, .ref a15, .ref a16, .ref a17, .int 0, .int 0])), (a12, .inl (cL, 8, .inr (.inl (fun _ => 0))))] := hDn
  replace hS := hSn
  clear hPn hDn hSn
  refine lv_aload_n hx hb d_Pf_wipe_5 rfl (lv_at hl 0 rfl) ?_
  refine va_get (D := (dC, dI)) (ci := 2) (v := .ref a12) (C := "NetUnfolder$Prefix") (T := T_Pf) (N := 14) hx hb ht in_Pf hown hK hP 0 rfl rfl 5 (by decide) (ht _ wd_1_79) (fun _ h9 => h9) rfl d_Pf_wipe_6 ?_
  refine lv_lconst (v := 0) hx hb d_Pf_wipe_9 (by decide) ?_
  have hPc := hP.sub (ws' := [(a12, .inl (cL, 8, .inr (.inl (fun _ => 0))))]) [1] rfl
  have hDc := hD.sub (ws' := [(a12, .inl (cL, 8, .inr (.inl (fun _ => 0))))]) [1] (by decide) rfl
  have hFc := va_free (wc := [(a12, .inl (cL, 8, .inr (.inl (fun _ => 0))))]) hD hS hA [1] rfl
  refine va_callv (va_runS (As := [.ref a12, .long 0]) (rest := []) ⟨hx, hb, hml, hown, ht⟩ (c_Ar_fill_8 l dC dI cI cL cZ _ a12 ) (va_cwS 2 ht (good_S wd_2_64 wd_2_65 wd_1_16 wd_2_66) rfl rfl rfl (by decide +kernel) ⟨Nat.le_of_ble_eq_true rfl, Nat.le_of_ble_eq_true rfl⟩) ⟨fun a U g mk q => by obtain ⟨q0, q1, qP, qK, qD, qN⟩ := q; exact ⟨q0, q1, qP, va_K.moved (u := U) (U := U.calling g mk a) (Vm.Alike.refl U.vm) qK, qD, NwA.same (u := U) rfl qN⟩, fun U hU hW => ⟨rfl, by rw [hU], by rw [hU]; exact hPc, va_K.moved hW.alike hK, hDc.weaken (fun _ _ _ _ => trivial), NwA.warm hW hN⟩⟩ rfl rfl hl.1 rfl (lv_room (Nat.le_of_ble_eq_true rfl)) d_Pf_wipe_10 ⟨Nat.le_of_ble_eq_true rfl, Nat.le_of_ble_eq_true rfl⟩) hS (fun q _ h => hFc q h) hFc (fun u t H2 locs ht9 hvm hw3 hB hz1 hk1 hSn => ?_)
  obtain ⟨hP1, hD1⟩ := hB
  rw [ht9] at hP1
  obtain ⟨hPn, hDn⟩ := va_join (wr := [(a2, .inr (2, [.int 0, .ref a8, .ref a9, .ref a10, .ref a11, .ref a12, .int 0, .ref a13, .ref a14, .ref a15, .ref a16, .ref a17, .int 0, .int 0]))]) (w1 := [(a12, .inl (cL, 8, .inr (.inl (fun _ => 0))))]) hP hD [1] [0] rfl rfl (by decide) (by decide) hk1 hFc hP1 hD1
  replace hP : va_P (dC, dI) clA [(a2, .inr (2, [.int 0, .ref a8, .ref a9, .ref a10, .ref a11, .ref a12, .int 0, .ref a13, .ref a14, .ref a15, .ref a16, .ref a17, .int 0, .int 0])), (a12, .inl (cL, 8, .inr (.inl (fun _ => 0))))] H2 := hPn
  replace hD : va_D A [(a2, .inr (2, [.int 0, .ref a8, .ref a9, .ref a10, .ref a11, .ref a12, .int 0, .ref a13, .ref a14, .ref a15, .ref a16, .ref a17, .int 0, .int 0])), (a12, .inl (cL, 8, .inr (.inl (fun _ => 0))))] := hDn
  replace hS := hSn
  clear hPn hDn hSn
  clear hPc hDc hFc hP1 hD1 hk1 hz1 ht9 hvm
  refine W.cs (cells' := 0) (slots' := 0) rfl rfl ?_
  refine lv_aload_n hx hb d_Pf_wipe_13 rfl (lv_at hl 0 rfl) ?_
  refine lv_iconst (v := 0) hx hb d_Pf_wipe_14 (by decide) ?_
  refine va_put (D := (dC, dI)) (ci := 2) (v := .int 0) (ty := .int) (C := "NetUnfolder$Prefix") (T := T_Pf) (N := 14) hx hb ht in_Pf ty_Pf ok_Pf nm_Pf hown hK hP hD hS 0 rfl rfl 6 (by decide) (ht _ wd_1_82) (fun _ h9 => h9) rfl (by decide +kernel) rfl rfl (Nat.le_of_ble_eq_true rfl) d_Pf_wipe_15 (fun H4 locs hPn hDn hSn => ?_)
  replace hP : va_P (dC, dI) clA [(a2, .inr (2, [.int 0, .ref a8, .ref a9, .ref a10, .ref a11, .ref a12, .int 0, .ref a13, .ref a14, .ref a15, .ref a16, .ref a17, .int 0, .int 0])), (a12, .inl (cL, 8, .inr (.inl (fun _ => 0))))] H4 := hPn
  replace hD : va_D A [(a2, .inr (2, [.int 0, .ref a8, .ref a9, .ref a10, .ref a11, .ref a12, .int 0, .ref a13, .ref a14, .ref a15, .ref a16, .ref a17, .int 0, .int 0])), (a12, .inl (cL, 8, .inr (.inl (fun _ => 0))))] := hDn
  replace hS := hSn
  clear hPn hDn hSn
  refine lv_aload_n hx hb d_Pf_wipe_18 rfl (lv_at hl 0 rfl) ?_
  refine lv_iconst (v := 0) hx hb d_Pf_wipe_19 (by decide) ?_
  refine va_put (D := (dC, dI)) (ci := 2) (v := .int 0) (ty := .int) (C := "NetUnfolder$Prefix") (T := T_Pf) (N := 14) hx hb ht in_Pf ty_Pf ok_Pf nm_Pf hown hK hP hD hS 0 rfl rfl 12 (by decide) (ht _ wd_1_100) (fun _ h9 => h9) rfl (by decide +kernel) rfl rfl (Nat.le_of_ble_eq_true rfl) d_Pf_wipe_20 (fun H5 locs hPn hDn hSn => ?_)
  replace hP : va_P (dC, dI) clA [(a2, .inr (2, [.int 0, .ref a8, .ref a9, .ref a10, .ref a11, .ref a12, .int 0, .ref a13, .ref a14, .ref a15, .ref a16, .ref a17, .int 0, .int 0])), (a12, .inl (cL, 8, .inr (.inl (fun _ => 0))))] H5 := hPn
  replace hD : va_D A [(a2, .inr (2, [.int 0, .ref a8, .ref a9, .ref a10, .ref a11, .ref a12, .int 0, .ref a13, .ref a14, .ref a15, .ref a16, .ref a17, .int 0, .int 0])), (a12, .inl (cL, 8, .inr (.inl (fun _ => 0))))] := hDn
  replace hS := hSn
  clear hPn hDn hSn
  refine lv_aload_n hx hb d_Pf_wipe_23 rfl (lv_at hl 0 rfl) ?_
  refine lv_iconst (v := 0) hx hb d_Pf_wipe_24 (by decide) ?_
  refine va_put (D := (dC, dI)) (ci := 2) (v := .int 0) (ty := .boolean) (C := "NetUnfolder$Prefix") (T := T_Pf) (N := 14) hx hb ht in_Pf ty_Pf ok_Pf nm_Pf hown hK hP hD hS 0 rfl rfl 13 (by decide) (ht _ wd_1_104) (fun _ h9 => h9) rfl (by decide +kernel) rfl rfl (Nat.le_of_ble_eq_true rfl) d_Pf_wipe_25 (fun H6 locs hPn hDn hSn => ?_)
  replace hP : va_P (dC, dI) clA [(a2, .inr (2, [.int 0, .ref a8, .ref a9, .ref a10, .ref a11, .ref a12, .int 0, .ref a13, .ref a14, .ref a15, .ref a16, .ref a17, .int 0, .int 0])), (a12, .inl (cL, 8, .inr (.inl (fun _ => 0))))] H6 := hPn
  replace hD : va_D A [(a2, .inr (2, [.int 0, .ref a8, .ref a9, .ref a10, .ref a11, .ref a12, .int 0, .ref a13, .ref a14, .ref a15, .ref a16, .ref a17, .int 0, .int 0])), (a12, .inl (cL, 8, .inr (.inl (fun _ => 0))))] := hDn
  replace hS := hSn
  clear hPn hDn hSn
  have hP9 := hP.sub (ws' := [(a2, .inr (2, [.int 0, .ref a8, .ref a9, .ref a10, .ref a11, .ref a12, .int 0, .ref a13, .ref a14, .ref a15, .ref a16, .ref a17, .int 0, .int 0])), (a12, .inl (cL, 8, .inr (.inl (fun _ => 0))))]) [0, 1] rfl
  have hD9 := hD.sub (ws' := [(a2, .inr (2, [.int 0, .ref a8, .ref a9, .ref a10, .ref a11, .ref a12, .int 0, .ref a13, .ref a14, .ref a15, .ref a16, .ref a17, .int 0, .int 0])), (a12, .inl (cL, 8, .inr (.inl (fun _ => 0))))]) [0, 1] (by decide) rfl
  exact W.vret hx hb hr (fun t ht9 hW => ⟨⟨(), rfl, trivial, by rw [ht9]; exact hP9, hD9⟩, hS.F ht9⟩) hS.2.2 d_Pf_wipe_28

set_option maxHeartbeats 4000000 in
set_option maxRecDepth 100000 in
theorem c_Wa_drop (l : Launch) (dC : Nat → ClassId) (dI : Nat → Nat → Nat) (cI cL cZ : ClassId) (sz : Nat) (a3 : Nat) (a18 : Nat) : Met l y_Wa_drop (Cond.code y_Wa_drop prog_9_method_2_code 1 none :: wsA) { frames := 0, cells := 0, slots := 0, locals := 0 } (va_Pc [.ref a3] (fun U => U.heap.size = sz ∧ va_P (dC, dI) clA [(a3, .inr (3, [.ref a18, .int (-1)]))] U.heap ∧ va_K (dC, dI) clA [(cI, .int), (cL, .long), (cZ, .boolean)] U ∧ va_D (fun _ => True) [(a3, .inr (3, [.ref a18, .int (-1)]))] ∧ NwA U)) (va_Qv (fun _ : Unit => True) (fun _ t => va_P (dC, dI) clA [(a3, .inr (3, [.ref a18, .int (-1)]))] t.heap ∧ va_D (va_A [(a3, .inr (3, [.ref a18, .int (-1)]))] sz) [(a3, .inr (3, [.ref a18, .int (-1)]))]) (va_A [(a3, .inr (3, [.ref a18, .int (-1)]))] sz)) 0 0 (va_A [(a3, .inr (3, [.ref a18, .int (-1)]))] sz) := by
  refine Met.ofW (cc := prog_9_method_2_code) (maxL := 1) (ret := none) (by decide) rfl ?_
  intro p e s m args below meth c s₁ B hml hv
  obtain ⟨rfl, hsz, hP, hK, hD0, hN⟩ := hv
  have hx := B.exec
  have hb := B.bytes
  have hr := B.returns
  have ht : ∀ w ∈ wsA, w.before _ s = true := fun w h => atoms_spec (ws := (Cond.code y_Wa_drop prog_9_method_2_code 1 none :: wsA)) B.pre w (List.mem_cons_of_mem _ h)
  have hown : s.vm.findClass "NetUnfolder$Way" = some m.cls := findClass_of_methodNamed B.named
  have hlocks := B.notSynchronized
  subst hsz
  have hD := hD0.self (sz := s.heap.size)
  generalize hAe : va_A [(a3, .inr (3, [.ref a18, .int (-1)]))] s.heap.size = A at hD ⊢
  have hA : ∀ q : Nat, s.heap.size ≤ q → A q := fun q h => by rw [← hAe]; exact Or.inr h
  have hS : va_S A s.heap s.heap [] := va_S.rf
  have hl := lv_entry ([.ref a3]) (n := 1) (Nat.le_of_ble_eq_true rfl)
  rw [lg_entry_eq]
  generalize (lg_sl ([.ref a3]) ++ List.replicate (1 - (lg_sl ([.ref a3])).length) Slot.unset).toArray = ls at hl ⊢
  replace hl : lv_has ls 1 [(0, .ref a3)] := hl
  refine lv_aload_n hx hb d_Wa_drop_0 rfl (lv_at hl 0 rfl) ?_
  refine lv_iconst (v := (-1)) hx hb d_Wa_drop_1 (by decide) ?_
  refine va_put (D := (dC, dI)) (ci := 3) (v := .int (-1)) (ty := .int) (C := "NetUnfolder$Way") (T := T_Wa) (N := 2) hx hb ht in_Wa ty_Wa ok_Wa nm_Wa hown hK hP hD hS 0 rfl rfl 1 (by decide) (ht _ wd_1_144) (fun _ h9 => h9) rfl (by decide +kernel) rfl rfl (Nat.le_of_ble_eq_true rfl) d_Wa_drop_2 (fun H1 locs hPn hDn hSn => ?_)
  replace hP : va_P (dC, dI) clA [(a3, .inr (3, [.ref a18, .int (-1)]))] H1 := hPn
  replace hD : va_D A [(a3, .inr (3, [.ref a18, .int (-1)]))] := hDn
  replace hS := hSn
  clear hPn hDn hSn
  have hP9 := hP.sub (ws' := [(a3, .inr (3, [.ref a18, .int (-1)]))]) [0] rfl
  have hD9 := hD.sub (ws' := [(a3, .inr (3, [.ref a18, .int (-1)]))]) [0] (by decide) rfl
  exact W.vret hx hb hr (fun t ht9 hW => ⟨⟨(), rfl, trivial, by rw [ht9]; exact hP9, hD9⟩, hS.F ht9⟩) hS.2.2 d_Wa_drop_5

set_option maxHeartbeats 4000000 in
set_option maxRecDepth 100000 in
theorem c_Ne_wipe (l : Launch) (dC : Nat → ClassId) (dI : Nat → Nat → Nat) (cI cL cZ : ClassId) (sz : Nat) (a1 : Nat) (a6 : Nat) (a7 : Nat) : Met l y_Ne_wipe (Cond.code y_Ne_wipe prog_3_method_2_code 1 none :: wsA) { frames := 0, cells := 0, slots := 0, locals := 0 } (va_Pc [.ref a1] (fun U => U.heap.size = sz ∧ va_P (dC, dI) clA [(a1, .inr (1, [.ref a6, .ref a7, .int 0, .int 0]))] U.heap ∧ va_K (dC, dI) clA [(cI, .int), (cL, .long), (cZ, .boolean)] U ∧ va_D (fun _ => True) [(a1, .inr (1, [.ref a6, .ref a7, .int 0, .int 0]))] ∧ NwA U)) (va_Qv (fun _ : Unit => True) (fun _ t => va_P (dC, dI) clA [(a1, .inr (1, [.ref a6, .ref a7, .int 0, .int 0]))] t.heap ∧ va_D (va_A [(a1, .inr (1, [.ref a6, .ref a7, .int 0, .int 0]))] sz) [(a1, .inr (1, [.ref a6, .ref a7, .int 0, .int 0]))]) (va_A [(a1, .inr (1, [.ref a6, .ref a7, .int 0, .int 0]))] sz)) 0 0 (va_A [(a1, .inr (1, [.ref a6, .ref a7, .int 0, .int 0]))] sz) := by
  refine Met.ofW (cc := prog_3_method_2_code) (maxL := 1) (ret := none) (by decide) rfl ?_
  intro p e s m args below meth c s₁ B hml hv
  obtain ⟨rfl, hsz, hP, hK, hD0, hN⟩ := hv
  have hx := B.exec
  have hb := B.bytes
  have hr := B.returns
  have ht : ∀ w ∈ wsA, w.before _ s = true := fun w h => atoms_spec (ws := (Cond.code y_Ne_wipe prog_3_method_2_code 1 none :: wsA)) B.pre w (List.mem_cons_of_mem _ h)
  have hown : s.vm.findClass "NetUnfolder$Net" = some m.cls := findClass_of_methodNamed B.named
  have hlocks := B.notSynchronized
  subst hsz
  have hD := hD0.self (sz := s.heap.size)
  generalize hAe : va_A [(a1, .inr (1, [.ref a6, .ref a7, .int 0, .int 0]))] s.heap.size = A at hD ⊢
  have hA : ∀ q : Nat, s.heap.size ≤ q → A q := fun q h => by rw [← hAe]; exact Or.inr h
  have hS : va_S A s.heap s.heap [] := va_S.rf
  have hl := lv_entry ([.ref a1]) (n := 1) (Nat.le_of_ble_eq_true rfl)
  rw [lg_entry_eq]
  generalize (lg_sl ([.ref a1]) ++ List.replicate (1 - (lg_sl ([.ref a1])).length) Slot.unset).toArray = ls at hl ⊢
  replace hl : lv_has ls 1 [(0, .ref a1)] := hl
  refine lv_aload_n hx hb d_Ne_wipe_0 rfl (lv_at hl 0 rfl) ?_
  refine lv_iconst (v := 0) hx hb d_Ne_wipe_1 (by decide) ?_
  refine va_put (D := (dC, dI)) (ci := 1) (v := .int 0) (ty := .int) (C := "NetUnfolder$Net") (T := T_Ne) (N := 4) hx hb ht in_Ne ty_Ne ok_Ne nm_Ne hown hK hP hD hS 0 rfl rfl 2 (by decide) (ht _ wd_1_38) (fun _ h9 => h9) rfl (by decide +kernel) rfl rfl (Nat.le_of_ble_eq_true rfl) d_Ne_wipe_2 (fun H1 locs hPn hDn hSn => ?_)
  replace hP : va_P (dC, dI) clA [(a1, .inr (1, [.ref a6, .ref a7, .int 0, .int 0]))] H1 := hPn
  replace hD : va_D A [(a1, .inr (1, [.ref a6, .ref a7, .int 0, .int 0]))] := hDn
  replace hS := hSn
  clear hPn hDn hSn
  refine lv_aload_n hx hb d_Ne_wipe_5 rfl (lv_at hl 0 rfl) ?_
  refine lv_iconst (v := 0) hx hb d_Ne_wipe_6 (by decide) ?_
  refine va_put (D := (dC, dI)) (ci := 1) (v := .int 0) (ty := .int) (C := "NetUnfolder$Net") (T := T_Ne) (N := 4) hx hb ht in_Ne ty_Ne ok_Ne nm_Ne hown hK hP hD hS 0 rfl rfl 3 (by decide) (ht _ wd_1_42) (fun _ h9 => h9) rfl (by decide +kernel) rfl rfl (Nat.le_of_ble_eq_true rfl) d_Ne_wipe_7 (fun H2 locs hPn hDn hSn => ?_)
  replace hP : va_P (dC, dI) clA [(a1, .inr (1, [.ref a6, .ref a7, .int 0, .int 0]))] H2 := hPn
  replace hD : va_D A [(a1, .inr (1, [.ref a6, .ref a7, .int 0, .int 0]))] := hDn
  replace hS := hSn
  clear hPn hDn hSn
  have hP9 := hP.sub (ws' := [(a1, .inr (1, [.ref a6, .ref a7, .int 0, .int 0]))]) [0] rfl
  have hD9 := hD.sub (ws' := [(a1, .inr (1, [.ref a6, .ref a7, .int 0, .int 0]))]) [0] (by decide) rfl
  exact W.vret hx hb hr (fun t ht9 hW => ⟨⟨(), rfl, trivial, by rw [ht9]; exact hP9, hD9⟩, hS.F ht9⟩) hS.2.2 d_Ne_wipe_10

set_option maxHeartbeats 4000000 in
set_option maxRecDepth 100000 in
theorem c_Ne_add (l : Launch) (dC : Nat → ClassId) (dI : Nat → Nat → Nat) (cI cL cZ : ClassId) (sz : Nat) (a1 : Nat) (a6 : Nat) (a7 : Nat) (k0 : Int32) (k1 : Int32) : Met l y_Ne_add (Cond.code y_Ne_add prog_3_method_3_code 3 (some .int) :: wsA) { frames := 0, cells := 0, slots := 0, locals := 0 } (va_Pc [.ref a1, .int k0, .int k1] (fun U => U.heap.size = sz ∧ va_P (dC, dI) clA [(a1, .inr (1, [.ref a6, .ref a7, .int 0, .int 0])), (a6, .inl (cI, 8, .inl (fun _ => 0))), (a7, .inl (cI, 8, .inl (fun _ => 0)))] U.heap ∧ va_K (dC, dI) clA [(cI, .int), (cL, .long), (cZ, .boolean)] U ∧ va_D (fun _ => True) [(a1, .inr (1, [.ref a6, .ref a7, .int 0, .int 0])), (a6, .inl (cI, 8, .inl (fun _ => 0))), (a7, .inl (cI, 8, .inl (fun _ => 0)))] ∧ NwA U)) (va_Qi (fun r (_ : Unit) => r = 0) (fun _ t => va_P (dC, dI) clA [(a1, .inr (1, [.ref a6, .ref a7, .int 1, .int 0])), (a6, .inl (cI, 8, .inl (upd (fun _ => 0) (0 : Int32).toNatClampNeg k0))), (a7, .inl (cI, 8, .inl (upd (fun _ => 0) (0 : Int32).toNatClampNeg k1)))] t.heap ∧ va_D (va_A [(a1, .inr (1, [.ref a6, .ref a7, .int 0, .int 0])), (a6, .inl (cI, 8, .inl (fun _ => 0))), (a7, .inl (cI, 8, .inl (fun _ => 0)))] sz) [(a1, .inr (1, [.ref a6, .ref a7, .int 1, .int 0])), (a6, .inl (cI, 8, .inl (upd (fun _ => 0) (0 : Int32).toNatClampNeg k0))), (a7, .inl (cI, 8, .inl (upd (fun _ => 0) (0 : Int32).toNatClampNeg k1)))]) (va_A [(a1, .inr (1, [.ref a6, .ref a7, .int 0, .int 0])), (a6, .inl (cI, 8, .inl (fun _ => 0))), (a7, .inl (cI, 8, .inl (fun _ => 0)))] sz)) 0 0 (va_A [(a1, .inr (1, [.ref a6, .ref a7, .int 0, .int 0])), (a6, .inl (cI, 8, .inl (fun _ => 0))), (a7, .inl (cI, 8, .inl (fun _ => 0)))] sz) := by
  refine Met.ofW (cc := prog_3_method_3_code) (maxL := 3) (ret := (some .int)) (by decide) rfl ?_
  intro p e s m args below meth c s₁ B hml hv
  obtain ⟨rfl, hsz, hP, hK, hD0, hN⟩ := hv
  have hx := B.exec
  have hb := B.bytes
  have hr := B.returns
  have ht : ∀ w ∈ wsA, w.before _ s = true := fun w h => atoms_spec (ws := (Cond.code y_Ne_add prog_3_method_3_code 3 (some .int) :: wsA)) B.pre w (List.mem_cons_of_mem _ h)
  have hown : s.vm.findClass "NetUnfolder$Net" = some m.cls := findClass_of_methodNamed B.named
  have hlocks := B.notSynchronized
  subst hsz
  have hD := hD0.self (sz := s.heap.size)
  generalize hAe : va_A [(a1, .inr (1, [.ref a6, .ref a7, .int 0, .int 0])), (a6, .inl (cI, 8, .inl (fun _ => 0))), (a7, .inl (cI, 8, .inl (fun _ => 0)))] s.heap.size = A at hD ⊢
  have hA : ∀ q : Nat, s.heap.size ≤ q → A q := fun q h => by rw [← hAe]; exact Or.inr h
  have hS : va_S A s.heap s.heap [] := va_S.rf
  have hl := lv_entry ([.ref a1, .int k0, .int k1]) (n := 3) (Nat.le_of_ble_eq_true rfl)
  rw [lg_entry_eq]
  generalize (lg_sl ([.ref a1, .int k0, .int k1]) ++ List.replicate (3 - (lg_sl ([.ref a1, .int k0, .int k1])).length) Slot.unset).toArray = ls at hl ⊢
  replace hl : lv_has ls 3 [(0, .ref a1), (1, .int k0), (2, .int k1)] := hl
  refine lv_aload_n hx hb d_Ne_add_0 rfl (lv_at hl 0 rfl) ?_
  refine va_get (D := (dC, dI)) (ci := 1) (v := .ref a6) (C := "NetUnfolder$Net") (T := T_Ne) (N := 4) hx hb ht in_Ne hown hK hP 0 rfl rfl 0 (by decide) (ht _ wd_1_33) (fun _ h9 => h9) rfl d_Ne_add_1 ?_
  refine lv_aload_n hx hb d_Ne_add_4 rfl (lv_at hl 0 rfl) ?_
  refine va_get (D := (dC, dI)) (ci := 1) (v := .int 0) (C := "NetUnfolder$Net") (T := T_Ne) (N := 4) hx hb ht in_Ne hown hK hP 0 rfl rfl 2 (by decide) (ht _ wd_1_38) (fun _ h9 => h9) rfl d_Ne_add_5 ?_
  refine lv_iload_n hx hb d_Ne_add_8 rfl (lv_at hl 1 rfl) ?_
  refine va_iast hx hb hK hP hD hS 1 0 rfl rfl (by unfold vp_in; decide) d_Ne_add_9 (fun H1 locs hPn hDn hSn => ?_)
  replace hP : va_P (dC, dI) clA [(a1, .inr (1, [.ref a6, .ref a7, .int 0, .int 0])), (a6, .inl (cI, 8, .inl (upd (fun _ => 0) (0 : Int32).toNatClampNeg k0))), (a7, .inl (cI, 8, .inl (fun _ => 0)))] H1 := hPn
  replace hD : va_D A [(a1, .inr (1, [.ref a6, .ref a7, .int 0, .int 0])), (a6, .inl (cI, 8, .inl (upd (fun _ => 0) (0 : Int32).toNatClampNeg k0))), (a7, .inl (cI, 8, .inl (fun _ => 0)))] := hDn
  replace hS := hSn
  clear hPn hDn hSn
  refine lv_aload_n hx hb d_Ne_add_10 rfl (lv_at hl 0 rfl) ?_
  refine va_get (D := (dC, dI)) (ci := 1) (v := .ref a7) (C := "NetUnfolder$Net") (T := T_Ne) (N := 4) hx hb ht in_Ne hown hK hP 0 rfl rfl 1 (by decide) (ht _ wd_1_36) (fun _ h9 => h9) rfl d_Ne_add_11 ?_
  refine lv_aload_n hx hb d_Ne_add_14 rfl (lv_at hl 0 rfl) ?_
  refine va_get (D := (dC, dI)) (ci := 1) (v := .int 0) (C := "NetUnfolder$Net") (T := T_Ne) (N := 4) hx hb ht in_Ne hown hK hP 0 rfl rfl 2 (by decide) (ht _ wd_1_38) (fun _ h9 => h9) rfl d_Ne_add_15 ?_
  refine lv_iload_n hx hb d_Ne_add_18 rfl (lv_at hl 2 rfl) ?_
  refine va_iast hx hb hK hP hD hS 2 0 rfl rfl (by unfold vp_in; decide) d_Ne_add_19 (fun H2 locs hPn hDn hSn => ?_)
  replace hP : va_P (dC, dI) clA [(a1, .inr (1, [.ref a6, .ref a7, .int 0, .int 0])), (a6, .inl (cI, 8, .inl (upd (fun _ => 0) (0 : Int32).toNatClampNeg k0))), (a7, .inl (cI, 8, .inl (upd (fun _ => 0) (0 : Int32).toNatClampNeg k1)))] H2 := hPn
  replace hD : va_D A [(a1, .inr (1, [.ref a6, .ref a7, .int 0, .int 0])), (a6, .inl (cI, 8, .inl (upd (fun _ => 0) (0 : Int32).toNatClampNeg k0))), (a7, .inl (cI, 8, .inl (upd (fun _ => 0) (0 : Int32).toNatClampNeg k1)))] := hDn
  replace hS := hSn
  clear hPn hDn hSn
  refine lv_aload_n hx hb d_Ne_add_20 rfl (lv_at hl 0 rfl) ?_
  refine lv_dup hx hb d_Ne_add_21 rfl ?_
  refine va_get (D := (dC, dI)) (ci := 1) (v := .int 0) (C := "NetUnfolder$Net") (T := T_Ne) (N := 4) hx hb ht in_Ne hown hK hP 0 rfl rfl 2 (by decide) (ht _ wd_1_38) (fun _ h9 => h9) rfl d_Ne_add_22 ?_
  refine lv_iconst (v := 1) hx hb d_Ne_add_25 (by decide) ?_
  refine lv_iadd hx hb d_Ne_add_26 ?_
  refine ci_i (y := 1) (by decide) ?_
  refine va_put (D := (dC, dI)) (ci := 1) (v := .int 1) (ty := .int) (C := "NetUnfolder$Net") (T := T_Ne) (N := 4) hx hb ht in_Ne ty_Ne ok_Ne nm_Ne hown hK hP hD hS 0 rfl rfl 2 (by decide) (ht _ wd_1_38) (fun _ h9 => h9) rfl (by decide +kernel) rfl rfl (Nat.le_of_ble_eq_true rfl) d_Ne_add_27 (fun H3 locs hPn hDn hSn => ?_)
  replace hP : va_P (dC, dI) clA [(a1, .inr (1, [.ref a6, .ref a7, .int 1, .int 0])), (a6, .inl (cI, 8, .inl (upd (fun _ => 0) (0 : Int32).toNatClampNeg k0))), (a7, .inl (cI, 8, .inl (upd (fun _ => 0) (0 : Int32).toNatClampNeg k1)))] H3 := hPn
  replace hD : va_D A [(a1, .inr (1, [.ref a6, .ref a7, .int 1, .int 0])), (a6, .inl (cI, 8, .inl (upd (fun _ => 0) (0 : Int32).toNatClampNeg k0))), (a7, .inl (cI, 8, .inl (upd (fun _ => 0) (0 : Int32).toNatClampNeg k1)))] := hDn
  replace hS := hSn
  clear hPn hDn hSn
  refine lv_aload_n hx hb d_Ne_add_30 rfl (lv_at hl 0 rfl) ?_
  refine va_get (D := (dC, dI)) (ci := 1) (v := .int 1) (C := "NetUnfolder$Net") (T := T_Ne) (N := 4) hx hb ht in_Ne hown hK hP 0 rfl rfl 2 (by decide) (ht _ wd_1_38) (fun _ h9 => h9) rfl d_Ne_add_31 ?_
  refine lv_iconst (v := 1) hx hb d_Ne_add_34 (by decide) ?_
  refine lv_isub hx hb d_Ne_add_35 ?_
  refine ci_i (y := 0) (by decide) ?_
  have hP9 := hP.sub (ws' := [(a1, .inr (1, [.ref a6, .ref a7, .int 1, .int 0])), (a6, .inl (cI, 8, .inl (upd (fun _ => 0) (0 : Int32).toNatClampNeg k0))), (a7, .inl (cI, 8, .inl (upd (fun _ => 0) (0 : Int32).toNatClampNeg k1)))]) [0, 1, 2] rfl
  have hD9 := hD.sub (ws' := [(a1, .inr (1, [.ref a6, .ref a7, .int 1, .int 0])), (a6, .inl (cI, 8, .inl (upd (fun _ => 0) (0 : Int32).toNatClampNeg k0))), (a7, .inl (cI, 8, .inl (upd (fun _ => 0) (0 : Int32).toNatClampNeg k1)))]) [0, 1, 2] (by decide) rfl
  exact W.iret (v := 0) hx hb hr (fun t ht9 hW => ⟨⟨0, (), rfl, rfl, by rw [ht9]; exact hP9, hD9⟩, hS.F ht9⟩) hS.2.2 d_Ne_add_36

set_option maxHeartbeats 4000000 in
set_option maxRecDepth 100000 in
theorem c_NU_drop (l : Launch) (dC : Nat → ClassId) (dI : Nat → Nat → Nat) (cI cL cZ : ClassId) (sz : Nat) (a0 : Nat) (a2 : Nat) (a12 : Nat) (a3 : Nat) (a1 : Nat) (a4 : Nat) (a5 : Nat) (a8 : Nat) (a9 : Nat) (a10 : Nat) (a11 : Nat) (a13 : Nat) (a14 : Nat) (a15 : Nat) (a16 : Nat) (a17 : Nat) (a18 : Nat) : Met l y_NU_dropPrefixAndWay (Cond.code y_NU_dropPrefixAndWay prog_1_method_15_code 1 none :: wsA) { frames := 2, cells := 0, slots := 0, locals := 44 } (va_Pc [.ref a0] (fun U => U.heap.size = sz ∧ va_P (dC, dI) clA [(a0, .inr (0, [.ref a1, .ref a2, .ref a3, .ref a4, .ref a5])), (a2, .inr (2, [.int 0, .ref a8, .ref a9, .ref a10, .ref a11, .ref a12, .int 0, .ref a13, .ref a14, .ref a15, .ref a16, .ref a17, .int 0, .int 0])), (a12, .inl (cL, 8, .inr (.inl (fun _ => 0)))), (a3, .inr (3, [.ref a18, .int (-1)]))] U.heap ∧ va_K (dC, dI) clA [(cI, .int), (cL, .long), (cZ, .boolean)] U ∧ va_D (fun _ => True) [(a0, .inr (0, [.ref a1, .ref a2, .ref a3, .ref a4, .ref a5])), (a2, .inr (2, [.int 0, .ref a8, .ref a9, .ref a10, .ref a11, .ref a12, .int 0, .ref a13, .ref a14, .ref a15, .ref a16, .ref a17, .int 0, .int 0])), (a12, .inl (cL, 8, .inr (.inl (fun _ => 0)))), (a3, .inr (3, [.ref a18, .int (-1)]))] ∧ NwA U)) (va_Qv (fun _ : Unit => True) (fun _ t => va_P (dC, dI) clA [(a0, .inr (0, [.ref a1, .ref a2, .ref a3, .ref a4, .ref a5])), (a2, .inr (2, [.int 0, .ref a8, .ref a9, .ref a10, .ref a11, .ref a12, .int 0, .ref a13, .ref a14, .ref a15, .ref a16, .ref a17, .int 0, .int 0])), (a12, .inl (cL, 8, .inr (.inl (fun _ => 0)))), (a3, .inr (3, [.ref a18, .int (-1)]))] t.heap ∧ va_D (va_A [(a0, .inr (0, [.ref a1, .ref a2, .ref a3, .ref a4, .ref a5])), (a2, .inr (2, [.int 0, .ref a8, .ref a9, .ref a10, .ref a11, .ref a12, .int 0, .ref a13, .ref a14, .ref a15, .ref a16, .ref a17, .int 0, .int 0])), (a12, .inl (cL, 8, .inr (.inl (fun _ => 0)))), (a3, .inr (3, [.ref a18, .int (-1)]))] sz) [(a0, .inr (0, [.ref a1, .ref a2, .ref a3, .ref a4, .ref a5])), (a2, .inr (2, [.int 0, .ref a8, .ref a9, .ref a10, .ref a11, .ref a12, .int 0, .ref a13, .ref a14, .ref a15, .ref a16, .ref a17, .int 0, .int 0])), (a12, .inl (cL, 8, .inr (.inl (fun _ => 0)))), (a3, .inr (3, [.ref a18, .int (-1)]))]) (va_A [(a0, .inr (0, [.ref a1, .ref a2, .ref a3, .ref a4, .ref a5])), (a2, .inr (2, [.int 0, .ref a8, .ref a9, .ref a10, .ref a11, .ref a12, .int 0, .ref a13, .ref a14, .ref a15, .ref a16, .ref a17, .int 0, .int 0])), (a12, .inl (cL, 8, .inr (.inl (fun _ => 0)))), (a3, .inr (3, [.ref a18, .int (-1)]))] sz)) 0 0 (va_A [(a0, .inr (0, [.ref a1, .ref a2, .ref a3, .ref a4, .ref a5])), (a2, .inr (2, [.int 0, .ref a8, .ref a9, .ref a10, .ref a11, .ref a12, .int 0, .ref a13, .ref a14, .ref a15, .ref a16, .ref a17, .int 0, .int 0])), (a12, .inl (cL, 8, .inr (.inl (fun _ => 0)))), (a3, .inr (3, [.ref a18, .int (-1)]))] sz) := by
  refine Met.ofW (cc := prog_1_method_15_code) (maxL := 1) (ret := none) (by decide) rfl ?_
  intro p e s m args below meth c s₁ B hml hv
  obtain ⟨rfl, hsz, hP, hK, hD0, hN⟩ := hv
  have hx := B.exec
  have hb := B.bytes
  have hr := B.returns
  have ht : ∀ w ∈ wsA, w.before _ s = true := fun w h => atoms_spec (ws := (Cond.code y_NU_dropPrefixAndWay prog_1_method_15_code 1 none :: wsA)) B.pre w (List.mem_cons_of_mem _ h)
  have hown : s.vm.findClass "NetUnfolder" = some m.cls := findClass_of_methodNamed B.named
  have hlocks := B.notSynchronized
  subst hsz
  have hD := hD0.self (sz := s.heap.size)
  generalize hAe : va_A [(a0, .inr (0, [.ref a1, .ref a2, .ref a3, .ref a4, .ref a5])), (a2, .inr (2, [.int 0, .ref a8, .ref a9, .ref a10, .ref a11, .ref a12, .int 0, .ref a13, .ref a14, .ref a15, .ref a16, .ref a17, .int 0, .int 0])), (a12, .inl (cL, 8, .inr (.inl (fun _ => 0)))), (a3, .inr (3, [.ref a18, .int (-1)]))] s.heap.size = A at hD ⊢
  have hA : ∀ q : Nat, s.heap.size ≤ q → A q := fun q h => by rw [← hAe]; exact Or.inr h
  have hS : va_S A s.heap s.heap [] := va_S.rf
  have hl := lv_entry ([.ref a0]) (n := 1) (Nat.le_of_ble_eq_true rfl)
  rw [lg_entry_eq]
  generalize (lg_sl ([.ref a0]) ++ List.replicate (1 - (lg_sl ([.ref a0])).length) Slot.unset).toArray = ls at hl ⊢
  replace hl : lv_has ls 1 [(0, .ref a0)] := hl
  refine lv_aload_n hx hb d_NU_dropPrefixAndWay_0 rfl (lv_at hl 0 rfl) ?_
  refine va_get (D := (dC, dI)) (ci := 0) (v := .ref a2) (C := "NetUnfolder") (T := T_NU) (N := 5) hx hb ht in_NU hown hK hP 0 rfl rfl 1 (by decide) (ht _ wd_2_37) (fun _ h9 => h9) rfl d_NU_dropPrefixAndWay_1 ?_
  have hPc := hP.sub (ws' := [(a2, .inr (2, [.int 0, .ref a8, .ref a9, .ref a10, .ref a11, .ref a12, .int 0, .ref a13, .ref a14, .ref a15, .ref a16, .ref a17, .int 0, .int 0])), (a12, .inl (cL, 8, .inr (.inl (fun _ => 0))))]) [1, 2] rfl
  have hDc := hD.sub (ws' := [(a2, .inr (2, [.int 0, .ref a8, .ref a9, .ref a10, .ref a11, .ref a12, .int 0, .ref a13, .ref a14, .ref a15, .ref a16, .ref a17, .int 0, .int 0])), (a12, .inl (cL, 8, .inr (.inl (fun _ => 0))))]) [1, 2] (by decide) rfl
  have hFc := va_free (wc := [(a2, .inr (2, [.int 0, .ref a8, .ref a9, .ref a10, .ref a11, .ref a12, .int 0, .ref a13, .ref a14, .ref a15, .ref a16, .ref a17, .int 0, .int 0])), (a12, .inl (cL, 8, .inr (.inl (fun _ => 0))))]) hD hS hA [1, 2] rfl
  refine va_callv (va_runV (C := "NetUnfolder$Prefix") (As := []) (rest := []) ⟨hx, hb, hml, hown, ht⟩ (c_Pf_wipe l dC dI cI cL cZ _ a2 a12 a8 a9 a10 a11 a13 a14 a15 a16 a17 ) (cwV 0 ht (good_V wd_2_60 wd_2_61 wd_2_62 wd_1_3 wd_2_63) rfl rfl rfl (by decide +kernel) ⟨Nat.le_of_ble_eq_true rfl, Nat.le_of_ble_eq_true rfl⟩) ⟨fun a U g mk q => by obtain ⟨q0, q1, qP, qK, qD, qN⟩ := q; exact ⟨q0, q1, qP, va_K.moved (u := U) (U := U.calling g mk a) (Vm.Alike.refl U.vm) qK, qD, NwA.same (u := U) rfl qN⟩, (va_recv (q0 := 1) (ci := 2) hK hP rfl rfl), fun U hU hW => ⟨rfl, by rw [hU], by rw [hU]; exact hPc, va_K.moved hW.alike hK, hDc.weaken (fun _ _ _ _ => trivial), NwA.warm hW hN⟩⟩ rfl rfl hl.1 rfl (lv_room (Nat.le_of_ble_eq_true rfl)) d_NU_dropPrefixAndWay_4 ⟨Nat.le_of_ble_eq_true rfl, Nat.le_of_ble_eq_true rfl⟩) hS (fun q _ h => hFc q h) hFc (fun u t H1 locs ht9 hvm hw2 hB hz1 hk1 hSn => ?_)
  obtain ⟨hP1, hD1⟩ := hB
  rw [ht9] at hP1
  obtain ⟨hPn, hDn⟩ := va_join (wr := [(a0, .inr (0, [.ref a1, .ref a2, .ref a3, .ref a4, .ref a5])), (a3, .inr (3, [.ref a18, .int (-1)]))]) (w1 := [(a2, .inr (2, [.int 0, .ref a8, .ref a9, .ref a10, .ref a11, .ref a12, .int 0, .ref a13, .ref a14, .ref a15, .ref a16, .ref a17, .int 0, .int 0])), (a12, .inl (cL, 8, .inr (.inl (fun _ => 0))))]) hP hD [1, 2] [0, 3] rfl rfl (by decide) (by decide) hk1 hFc hP1 hD1
  replace hP : va_P (dC, dI) clA [(a0, .inr (0, [.ref a1, .ref a2, .ref a3, .ref a4, .ref a5])), (a3, .inr (3, [.ref a18, .int (-1)])), (a2, .inr (2, [.int 0, .ref a8, .ref a9, .ref a10, .ref a11, .ref a12, .int 0, .ref a13, .ref a14, .ref a15, .ref a16, .ref a17, .int 0, .int 0])), (a12, .inl (cL, 8, .inr (.inl (fun _ => 0))))] H1 := hPn
  replace hD : va_D A [(a0, .inr (0, [.ref a1, .ref a2, .ref a3, .ref a4, .ref a5])), (a3, .inr (3, [.ref a18, .int (-1)])), (a2, .inr (2, [.int 0, .ref a8, .ref a9, .ref a10, .ref a11, .ref a12, .int 0, .ref a13, .ref a14, .ref a15, .ref a16, .ref a17, .int 0, .int 0])), (a12, .inl (cL, 8, .inr (.inl (fun _ => 0))))] := hDn
  replace hS := hSn
  clear hPn hDn hSn
  clear hPc hDc hFc hP1 hD1 hk1 hz1 ht9 hvm
  refine W.cs (cells' := 0) (slots' := 0) rfl rfl ?_
  refine lv_aload_n hx hb d_NU_dropPrefixAndWay_7 rfl (lv_at hl 0 rfl) ?_
  refine va_get (D := (dC, dI)) (ci := 0) (v := .ref a3) (C := "NetUnfolder") (T := T_NU) (N := 5) hx hb ht in_NU hown hK hP 0 rfl rfl 2 (by decide) (ht _ wd_2_38) (fun _ h9 => h9) rfl d_NU_dropPrefixAndWay_8 ?_
  have hPc := hP.sub (ws' := [(a3, .inr (3, [.ref a18, .int (-1)]))]) [1] rfl
  have hDc := hD.sub (ws' := [(a3, .inr (3, [.ref a18, .int (-1)]))]) [1] (by decide) rfl
  have hFc := va_free (wc := [(a3, .inr (3, [.ref a18, .int (-1)]))]) hD hS hA [1] rfl
  refine va_callv (va_runV (C := "NetUnfolder$Way") (As := []) (rest := []) ⟨hx, hb, hml, hown, ht⟩ (c_Wa_drop l dC dI cI cL cZ _ a3 a18 ) (cwV 0 ht (good_V wd_2_67 wd_2_68 wd_2_69 wd_1_4 wd_2_70) rfl rfl rfl (by decide +kernel) ⟨Nat.le_of_ble_eq_true rfl, Nat.le_of_ble_eq_true rfl⟩) ⟨fun a U g mk q => by obtain ⟨q0, q1, qP, qK, qD, qN⟩ := q; exact ⟨q0, q1, qP, va_K.moved (u := U) (U := U.calling g mk a) (Vm.Alike.refl U.vm) qK, qD, NwA.same (u := U) rfl qN⟩, (va_recv (q0 := 1) (ci := 3) hK hP rfl rfl), fun U hU hW => ⟨rfl, by rw [hU], by rw [hU]; exact hPc, va_K.moved hW.alike hK, hDc.weaken (fun _ _ _ _ => trivial), NwA.warm hW hN⟩⟩ rfl rfl hl.1 rfl (lv_room (Nat.le_of_ble_eq_true rfl)) d_NU_dropPrefixAndWay_11 ⟨Nat.le_of_ble_eq_true rfl, Nat.le_of_ble_eq_true rfl⟩) hS (fun q _ h => hFc q h) hFc (fun u t H3 locs ht9 hvm hw4 hB hz1 hk1 hSn => ?_)
  obtain ⟨hP1, hD1⟩ := hB
  rw [ht9] at hP1
  obtain ⟨hPn, hDn⟩ := va_join (wr := [(a0, .inr (0, [.ref a1, .ref a2, .ref a3, .ref a4, .ref a5])), (a2, .inr (2, [.int 0, .ref a8, .ref a9, .ref a10, .ref a11, .ref a12, .int 0, .ref a13, .ref a14, .ref a15, .ref a16, .ref a17, .int 0, .int 0])), (a12, .inl (cL, 8, .inr (.inl (fun _ => 0))))]) (w1 := [(a3, .inr (3, [.ref a18, .int (-1)]))]) hP hD [1] [0, 2, 3] rfl rfl (by decide) (by decide) hk1 hFc hP1 hD1
  replace hP : va_P (dC, dI) clA [(a0, .inr (0, [.ref a1, .ref a2, .ref a3, .ref a4, .ref a5])), (a2, .inr (2, [.int 0, .ref a8, .ref a9, .ref a10, .ref a11, .ref a12, .int 0, .ref a13, .ref a14, .ref a15, .ref a16, .ref a17, .int 0, .int 0])), (a12, .inl (cL, 8, .inr (.inl (fun _ => 0)))), (a3, .inr (3, [.ref a18, .int (-1)]))] H3 := hPn
  replace hD : va_D A [(a0, .inr (0, [.ref a1, .ref a2, .ref a3, .ref a4, .ref a5])), (a2, .inr (2, [.int 0, .ref a8, .ref a9, .ref a10, .ref a11, .ref a12, .int 0, .ref a13, .ref a14, .ref a15, .ref a16, .ref a17, .int 0, .int 0])), (a12, .inl (cL, 8, .inr (.inl (fun _ => 0)))), (a3, .inr (3, [.ref a18, .int (-1)]))] := hDn
  replace hS := hSn
  clear hPn hDn hSn
  clear hPc hDc hFc hP1 hD1 hk1 hz1 ht9 hvm
  refine W.cs (cells' := 0) (slots' := 0) rfl rfl ?_
  have hP9 := hP.sub (ws' := [(a0, .inr (0, [.ref a1, .ref a2, .ref a3, .ref a4, .ref a5])), (a2, .inr (2, [.int 0, .ref a8, .ref a9, .ref a10, .ref a11, .ref a12, .int 0, .ref a13, .ref a14, .ref a15, .ref a16, .ref a17, .int 0, .int 0])), (a12, .inl (cL, 8, .inr (.inl (fun _ => 0)))), (a3, .inr (3, [.ref a18, .int (-1)]))]) [0, 1, 2, 3] rfl
  have hD9 := hD.sub (ws' := [(a0, .inr (0, [.ref a1, .ref a2, .ref a3, .ref a4, .ref a5])), (a2, .inr (2, [.int 0, .ref a8, .ref a9, .ref a10, .ref a11, .ref a12, .int 0, .ref a13, .ref a14, .ref a15, .ref a16, .ref a17, .int 0, .int 0])), (a12, .inl (cL, 8, .inr (.inl (fun _ => 0)))), (a3, .inr (3, [.ref a18, .int (-1)]))]) [0, 1, 2, 3] (by decide) rfl
  exact W.vret hx hb hr (fun t ht9 hW => ⟨⟨(), rfl, trivial, by rw [ht9]; exact hP9, hD9⟩, hS.F ht9⟩) hS.2.2 d_NU_dropPrefixAndWay_14

set_option maxHeartbeats 4000000 in
set_option maxRecDepth 100000 in
theorem c_Pf_allConditions (l : Launch) (dC : Nat → ClassId) (dI : Nat → Nat → Nat) (cI cL cZ : ClassId) (sz : Nat) (a2 : Nat) (a8 : Nat) (a9 : Nat) (a10 : Nat) (a11 : Nat) (a12 : Nat) (a13 : Nat) (a14 : Nat) (a15 : Nat) (a16 : Nat) (a17 : Nat) : Met l y_Pf_allConditions (Cond.code y_Pf_allConditions prog_5_method_4_code 1 (some .long) :: wsA) { frames := 0, cells := 0, slots := 0, locals := 0 } (va_Pc [.ref a2] (fun U => U.heap.size = sz ∧ va_P (dC, dI) clA [(a2, .inr (2, [.int 0, .ref a8, .ref a9, .ref a10, .ref a11, .ref a12, .int 0, .ref a13, .ref a14, .ref a15, .ref a16, .ref a17, .int 0, .int 0]))] U.heap ∧ va_K (dC, dI) clA [(cI, .int), (cL, .long), (cZ, .boolean)] U ∧ va_D (fun _ => True) [(a2, .inr (2, [.int 0, .ref a8, .ref a9, .ref a10, .ref a11, .ref a12, .int 0, .ref a13, .ref a14, .ref a15, .ref a16, .ref a17, .int 0, .int 0]))] ∧ NwA U)) (va_Ql (fun r (_ : Unit) => r = 0) (fun _ t => va_P (dC, dI) clA [(a2, .inr (2, [.int 0, .ref a8, .ref a9, .ref a10, .ref a11, .ref a12, .int 0, .ref a13, .ref a14, .ref a15, .ref a16, .ref a17, .int 0, .int 0]))] t.heap ∧ va_D (va_A [(a2, .inr (2, [.int 0, .ref a8, .ref a9, .ref a10, .ref a11, .ref a12, .int 0, .ref a13, .ref a14, .ref a15, .ref a16, .ref a17, .int 0, .int 0]))] sz) [(a2, .inr (2, [.int 0, .ref a8, .ref a9, .ref a10, .ref a11, .ref a12, .int 0, .ref a13, .ref a14, .ref a15, .ref a16, .ref a17, .int 0, .int 0]))]) (va_A [(a2, .inr (2, [.int 0, .ref a8, .ref a9, .ref a10, .ref a11, .ref a12, .int 0, .ref a13, .ref a14, .ref a15, .ref a16, .ref a17, .int 0, .int 0]))] sz)) 0 0 (va_A [(a2, .inr (2, [.int 0, .ref a8, .ref a9, .ref a10, .ref a11, .ref a12, .int 0, .ref a13, .ref a14, .ref a15, .ref a16, .ref a17, .int 0, .int 0]))] sz) := by
  refine Met.ofW (cc := prog_5_method_4_code) (maxL := 1) (ret := (some .long)) (by decide) rfl ?_
  intro p e s m args below meth c s₁ B hml hv
  obtain ⟨rfl, hsz, hP, hK, hD0, hN⟩ := hv
  have hx := B.exec
  have hb := B.bytes
  have hr := B.returns
  have ht : ∀ w ∈ wsA, w.before _ s = true := fun w h => atoms_spec (ws := (Cond.code y_Pf_allConditions prog_5_method_4_code 1 (some .long) :: wsA)) B.pre w (List.mem_cons_of_mem _ h)
  have hown : s.vm.findClass "NetUnfolder$Prefix" = some m.cls := findClass_of_methodNamed B.named
  have hlocks := B.notSynchronized
  subst hsz
  have hD := hD0.self (sz := s.heap.size)
  generalize hAe : va_A [(a2, .inr (2, [.int 0, .ref a8, .ref a9, .ref a10, .ref a11, .ref a12, .int 0, .ref a13, .ref a14, .ref a15, .ref a16, .ref a17, .int 0, .int 0]))] s.heap.size = A at hD ⊢
  have hA : ∀ q : Nat, s.heap.size ≤ q → A q := fun q h => by rw [← hAe]; exact Or.inr h
  have hS : va_S A s.heap s.heap [] := va_S.rf
  have hl := lv_entry ([.ref a2]) (n := 1) (Nat.le_of_ble_eq_true rfl)
  rw [lg_entry_eq]
  generalize (lg_sl ([.ref a2]) ++ List.replicate (1 - (lg_sl ([.ref a2])).length) Slot.unset).toArray = ls at hl ⊢
  replace hl : lv_has ls 1 [(0, .ref a2)] := hl
  refine lv_lconst (v := 1) hx hb d_Pf_allConditions_0 (by decide) ?_
  refine lv_aload_n hx hb d_Pf_allConditions_1 rfl (lv_at hl 0 rfl) ?_
  refine va_get (D := (dC, dI)) (ci := 2) (v := .int 0) (C := "NetUnfolder$Prefix") (T := T_Pf) (N := 14) hx hb ht in_Pf hown hK hP 0 rfl rfl 0 (by decide) (ht _ wd_1_62) (fun _ h9 => h9) rfl d_Pf_allConditions_2 ?_
  refine lv_lshl (v := 1) hx hb d_Pf_allConditions_5 (by decide) ?_
  refine lv_lconst (v := 1) hx hb d_Pf_allConditions_6 (by decide) ?_
  refine lv_lsub hx hb d_Pf_allConditions_7 ?_
  refine ci_l (y := 0) (by decide) ?_
  have hP9 := hP.sub (ws' := [(a2, .inr (2, [.int 0, .ref a8, .ref a9, .ref a10, .ref a11, .ref a12, .int 0, .ref a13, .ref a14, .ref a15, .ref a16, .ref a17, .int 0, .int 0]))]) [0] rfl
  have hD9 := hD.sub (ws' := [(a2, .inr (2, [.int 0, .ref a8, .ref a9, .ref a10, .ref a11, .ref a12, .int 0, .ref a13, .ref a14, .ref a15, .ref a16, .ref a17, .int 0, .int 0]))]) [0] (by decide) rfl
  exact W.lret (v := 0) hx hb hr (fun t ht9 hW => ⟨⟨0, (), rfl, rfl, by rw [ht9]; exact hP9, hD9⟩, hS.F ht9⟩) hS.2.2 d_Pf_allConditions_8

set_option maxHeartbeats 4000000 in
set_option maxRecDepth 100000 in
theorem c_Pf_addConditions (l : Launch) (dC : Nat → ClassId) (dI : Nat → Nat → Nat) (cI cL cZ : ClassId) (sz : Nat) (a2 : Nat) (a8 : Nat) (a9 : Nat) (a10 : Nat) (a11 : Nat) (a12 : Nat) (a13 : Nat) (a14 : Nat) (a15 : Nat) (a16 : Nat) (a17 : Nat) : Met l y_Pf_addConditions (Cond.code y_Pf_addConditions prog_5_method_5_code 10 (some .long) :: wsA) { frames := 1, cells := 0, slots := 0, locals := 22 } (va_Pc [.ref a2, .int 0, .int (-1), .long 0] (fun U => U.heap.size = sz ∧ va_P (dC, dI) clA [(a2, .inr (2, [.int 0, .ref a8, .ref a9, .ref a10, .ref a11, .ref a12, .int 0, .ref a13, .ref a14, .ref a15, .ref a16, .ref a17, .int 0, .int 0]))] U.heap ∧ va_K (dC, dI) clA [(cI, .int), (cL, .long), (cZ, .boolean)] U ∧ va_D (fun _ => True) [(a2, .inr (2, [.int 0, .ref a8, .ref a9, .ref a10, .ref a11, .ref a12, .int 0, .ref a13, .ref a14, .ref a15, .ref a16, .ref a17, .int 0, .int 0]))] ∧ NwA U)) (va_Ql (fun r (_ : Unit) => r = 0) (fun _ t => va_P (dC, dI) clA [(a2, .inr (2, [.int 0, .ref a8, .ref a9, .ref a10, .ref a11, .ref a12, .int 0, .ref a13, .ref a14, .ref a15, .ref a16, .ref a17, .int 0, .int 0]))] t.heap ∧ va_D (va_A [(a2, .inr (2, [.int 0, .ref a8, .ref a9, .ref a10, .ref a11, .ref a12, .int 0, .ref a13, .ref a14, .ref a15, .ref a16, .ref a17, .int 0, .int 0]))] sz) [(a2, .inr (2, [.int 0, .ref a8, .ref a9, .ref a10, .ref a11, .ref a12, .int 0, .ref a13, .ref a14, .ref a15, .ref a16, .ref a17, .int 0, .int 0]))]) (va_A [(a2, .inr (2, [.int 0, .ref a8, .ref a9, .ref a10, .ref a11, .ref a12, .int 0, .ref a13, .ref a14, .ref a15, .ref a16, .ref a17, .int 0, .int 0]))] sz)) 0 0 (va_A [(a2, .inr (2, [.int 0, .ref a8, .ref a9, .ref a10, .ref a11, .ref a12, .int 0, .ref a13, .ref a14, .ref a15, .ref a16, .ref a17, .int 0, .int 0]))] sz) := by
  refine Met.ofW (cc := prog_5_method_5_code) (maxL := 10) (ret := (some .long)) (by decide) rfl ?_
  intro p e s m args below meth c s₁ B hml hv
  obtain ⟨rfl, hsz, hP, hK, hD0, hN⟩ := hv
  have hx := B.exec
  have hb := B.bytes
  have hr := B.returns
  have ht : ∀ w ∈ wsA, w.before _ s = true := fun w h => atoms_spec (ws := (Cond.code y_Pf_addConditions prog_5_method_5_code 10 (some .long) :: wsA)) B.pre w (List.mem_cons_of_mem _ h)
  have hown : s.vm.findClass "NetUnfolder$Prefix" = some m.cls := findClass_of_methodNamed B.named
  have hlocks := B.notSynchronized
  subst hsz
  have hD := hD0.self (sz := s.heap.size)
  generalize hAe : va_A [(a2, .inr (2, [.int 0, .ref a8, .ref a9, .ref a10, .ref a11, .ref a12, .int 0, .ref a13, .ref a14, .ref a15, .ref a16, .ref a17, .int 0, .int 0]))] s.heap.size = A at hD ⊢
  have hA : ∀ q : Nat, s.heap.size ≤ q → A q := fun q h => by rw [← hAe]; exact Or.inr h
  have hS : va_S A s.heap s.heap [] := va_S.rf
  have hl := lv_entry ([.ref a2, .int 0, .int (-1), .long 0]) (n := 10) (Nat.le_of_ble_eq_true rfl)
  rw [lg_entry_eq]
  generalize (lg_sl ([.ref a2, .int 0, .int (-1), .long 0]) ++ List.replicate (10 - (lg_sl ([.ref a2, .int 0, .int (-1), .long 0])).length) Slot.unset).toArray = ls at hl ⊢
  replace hl : lv_has ls 10 [(0, .ref a2), (1, .int 0), (2, .int (-1)), (3, .long 0)] := hl
  refine lv_aload_n hx hb d_Pf_addConditions_0 rfl (lv_at hl 0 rfl) ?_
  have hPc := hP.sub (ws' := [(a2, .inr (2, [.int 0, .ref a8, .ref a9, .ref a10, .ref a11, .ref a12, .int 0, .ref a13, .ref a14, .ref a15, .ref a16, .ref a17, .int 0, .int 0]))]) [0] rfl
  have hDc := hD.sub (ws' := [(a2, .inr (2, [.int 0, .ref a8, .ref a9, .ref a10, .ref a11, .ref a12, .int 0, .ref a13, .ref a14, .ref a15, .ref a16, .ref a17, .int 0, .int 0]))]) [0] (by decide) rfl
  have hFc := va_free (wc := [(a2, .inr (2, [.int 0, .ref a8, .ref a9, .ref a10, .ref a11, .ref a12, .int 0, .ref a13, .ref a14, .ref a15, .ref a16, .ref a17, .int 0, .int 0]))]) hD hS hA [0] rfl
  refine va_calll (va_runV (C := "NetUnfolder$Prefix") (As := []) (rest := []) ⟨hx, hb, hml, hown, ht⟩ (c_Pf_allConditions l dC dI cI cL cZ _ a2 a8 a9 a10 a11 a12 a13 a14 a15 a16 a17 ) (cwV 0 ht (good_V wd_2_96 wd_2_97 wd_2_98 wd_1_3 wd_2_99) rfl rfl rfl (by decide +kernel) ⟨Nat.le_of_ble_eq_true rfl, Nat.le_of_ble_eq_true rfl⟩) ⟨fun a U g mk q => by obtain ⟨q0, q1, qP, qK, qD, qN⟩ := q; exact ⟨q0, q1, qP, va_K.moved (u := U) (U := U.calling g mk a) (Vm.Alike.refl U.vm) qK, qD, NwA.same (u := U) rfl qN⟩, (va_recv (q0 := 0) (ci := 2) hK hP rfl rfl), fun U hU hW => ⟨rfl, by rw [hU], by rw [hU]; exact hPc, va_K.moved hW.alike hK, hDc.weaken (fun _ _ _ _ => trivial), NwA.warm hW hN⟩⟩ rfl rfl hl.1 rfl (lv_room (Nat.le_of_ble_eq_true rfl)) d_Pf_addConditions_1 ⟨Nat.le_of_ble_eq_true rfl, Nat.le_of_ble_eq_true rfl⟩) hS (fun q _ h => hFc q h) hFc (fun r9 u t H1 locs ht9 hvm hw2 hB hz1 hk1 hSn => ?_)
  obtain ⟨hP1, hD1⟩ := hB
  rw [ht9] at hP1
  obtain ⟨hPn, hDn⟩ := va_join (wr := []) (w1 := [(a2, .inr (2, [.int 0, .ref a8, .ref a9, .ref a10, .ref a11, .ref a12, .int 0, .ref a13, .ref a14, .ref a15, .ref a16, .ref a17, .int 0, .int 0]))]) hP hD [0] [] rfl rfl (by decide) (by decide) hk1 hFc hP1 hD1
  replace hP : va_P (dC, dI) clA [(a2, .inr (2, [.int 0, .ref a8, .ref a9, .ref a10, .ref a11, .ref a12, .int 0, .ref a13, .ref a14, .ref a15, .ref a16, .ref a17, .int 0, .int 0]))] H1 := hPn
  replace hD : va_D A [(a2, .inr (2, [.int 0, .ref a8, .ref a9, .ref a10, .ref a11, .ref a12, .int 0, .ref a13, .ref a14, .ref a15, .ref a16, .ref a17, .int 0, .int 0]))] := hDn
  replace hS := hSn
  clear hPn hDn hSn
  clear hPc hDc hFc hP1 hD1 hk1 hz1 ht9 hvm
  refine W.cs (cells' := 0) (slots' := 0) rfl rfl ?_
  subst hw2
  refine lv_lstore (lv' := [(5, .long 0), (0, .ref a2), (1, .int 0), (2, .int (-1)), (3, .long 0)]) hx hb d_Pf_addConditions_4 hl (by decide) rfl (fun ls hln => ?_)
  replace hl : lv_has ls 10 [(5, .long 0), (0, .ref a2), (1, .int 0), (2, .int (-1)), (3, .long 0)] := hln
  clear hln
  refine lv_iconst (v := 0) hx hb d_Pf_addConditions_6 (by decide) ?_
  refine lv_istore (lv' := [(7, .int 0), (5, .long 0), (0, .ref a2), (1, .int 0), (2, .int (-1)), (3, .long 0)]) hx hb d_Pf_addConditions_7 hl (by decide) rfl (fun ls hln => ?_)
  replace hl : lv_has ls 10 [(7, .int 0), (5, .long 0), (0, .ref a2), (1, .int 0), (2, .int (-1)), (3, .long 0)] := hln
  clear hln
  refine lv_iload hx hb d_Pf_addConditions_9 (lv_at hl 0 rfl) ?_
  refine lv_bipush (v := 8) hx hb d_Pf_addConditions_11 (by decide) ?_
  refine lv_icmp_ge (tgt := 98) hx hb d_Pf_addConditions_13 (by decide) (fun h => absurd h (by decide)) (fun _ => ?_)
  refine lv_iload_n hx hb d_Pf_addConditions_16 rfl (lv_at hl 3 rfl) ?_
  refine lv_i2l (v := 0) hx hb d_Pf_addConditions_17 (by decide) ?_
  refine lv_iload hx hb d_Pf_addConditions_18 (lv_at hl 0 rfl) ?_
  have hPc : va_P (dC, dI) clA [] _ := pu_P (H := H1)
  have hDc : va_D (fun _ => True) [] := pu_D
  have hFc := pu_free hS hA
  refine va_calli (va_runSN (As := [.long 0, .int 0]) (rest := []) ⟨hx, hb, hml, hown, ht⟩ (c_NU_has_0_0 l dC dI cI cL cZ _  ) ⟨va_cnB 2 ht (goodA wd_2_102) rfl rfl rfl hN.2.2.2.2.1 (ht _ wd_1_1) (by decide +kernel) ⟨Nat.le_of_ble_eq_true rfl, Nat.le_of_ble_eq_true rfl⟩, ht _ wd_2_101, trivial⟩ ⟨fun a U g mk q => by obtain ⟨q0, q1, qP, qK, qD, qN⟩ := q; exact ⟨q0, q1, qP, va_K.moved (u := U) (U := U.calling g mk a) (Vm.Alike.refl U.vm) qK, qD, NwA.same (u := U) rfl qN⟩, fun U hU hW => ⟨rfl, by rw [hU], by rw [hU]; exact hPc, va_K.moved hW.alike hK, hDc.weaken (fun _ _ _ _ => trivial), NwA.warm hW hN⟩⟩ rfl rfl hl.1 rfl (lv_room (Nat.le_of_ble_eq_true rfl)) d_Pf_addConditions_20 ⟨Nat.le_of_ble_eq_true rfl, Nat.le_of_ble_eq_true rfl⟩) hS (fun q _ h => hFc q h) hFc (fun r9 u t H3 locs ht9 hvm hw4 hB hz1 hk1 hSn => ?_)
  replace hP : va_P (dC, dI) clA [(a2, .inr (2, [.int 0, .ref a8, .ref a9, .ref a10, .ref a11, .ref a12, .int 0, .ref a13, .ref a14, .ref a15, .ref a16, .ref a17, .int 0, .int 0]))] H3 := pu_keep hP hk1
  replace hS := hSn
  clear hSn hPc hDc hFc hk1 hz1 ht9 hvm hB
  refine W.cs (cells' := 0) (slots' := 0) rfl rfl ?_
  subst hw4
  refine lv_if_eq (tgt := 92) hx hb d_Pf_addConditions_23 (by decide) (fun _ => ?_) (fun h => (h (by decide)).elim)
  refine lv_iinc (k := 0) (v := 1) (lv' := [(7, .int 1), (5, .long 0), (0, .ref a2), (1, .int 0), (2, .int (-1)), (3, .long 0)]) hx hb d_Pf_addConditions_92 hl rfl (by decide) (by decide) rfl (fun ls hln => ?_)
  replace hl : lv_has ls 10 [(7, .int 1), (5, .long 0), (0, .ref a2), (1, .int 0), (2, .int (-1)), (3, .long 0)] := hln
  clear hln
  refine lv_goto (tgt := 9) hx hb d_Pf_addConditions_95 (by decide) ?_
  refine lv_iload hx hb d_Pf_addConditions_9 (lv_at hl 0 rfl) ?_
  refine lv_bipush (v := 8) hx hb d_Pf_addConditions_11 (by decide) ?_
  refine lv_icmp_ge (tgt := 98) hx hb d_Pf_addConditions_13 (by decide) (fun h => absurd h (by decide)) (fun _ => ?_)
  refine lv_iload_n hx hb d_Pf_addConditions_16 rfl (lv_at hl 3 rfl) ?_
  refine lv_i2l (v := 0) hx hb d_Pf_addConditions_17 (by decide) ?_
  refine lv_iload hx hb d_Pf_addConditions_18 (lv_at hl 0 rfl) ?_
  have hPc : va_P (dC, dI) clA [] _ := pu_P (H := H3)
  have hDc : va_D (fun _ => True) [] := pu_D
  have hFc := pu_free hS hA
  refine va_calli (va_runSN (As := [.long 0, .int 1]) (rest := []) ⟨hx, hb, hml, hown, ht⟩ (c_NU_has_0_1 l dC dI cI cL cZ _  ) ⟨va_cnB 2 ht (goodA wd_2_102) rfl rfl rfl hN.2.2.2.2.1 (ht _ wd_1_1) (by decide +kernel) ⟨Nat.le_of_ble_eq_true rfl, Nat.le_of_ble_eq_true rfl⟩, ht _ wd_2_101, trivial⟩ ⟨fun a U g mk q => by obtain ⟨q0, q1, qP, qK, qD, qN⟩ := q; exact ⟨q0, q1, qP, va_K.moved (u := U) (U := U.calling g mk a) (Vm.Alike.refl U.vm) qK, qD, NwA.same (u := U) rfl qN⟩, fun U hU hW => ⟨rfl, by rw [hU], by rw [hU]; exact hPc, va_K.moved hW.alike hK, hDc.weaken (fun _ _ _ _ => trivial), NwA.warm hW hN⟩⟩ rfl rfl hl.1 rfl (lv_room (Nat.le_of_ble_eq_true rfl)) d_Pf_addConditions_20 ⟨Nat.le_of_ble_eq_true rfl, Nat.le_of_ble_eq_true rfl⟩) hS (fun q _ h => hFc q h) hFc (fun r9 u t H5 locs ht9 hvm hw6 hB hz1 hk1 hSn => ?_)
  replace hP : va_P (dC, dI) clA [(a2, .inr (2, [.int 0, .ref a8, .ref a9, .ref a10, .ref a11, .ref a12, .int 0, .ref a13, .ref a14, .ref a15, .ref a16, .ref a17, .int 0, .int 0]))] H5 := pu_keep hP hk1
  replace hS := hSn
  clear hSn hPc hDc hFc hk1 hz1 ht9 hvm hB
  refine W.cs (cells' := 0) (slots' := 0) rfl rfl ?_
  subst hw6
  refine lv_if_eq (tgt := 92) hx hb d_Pf_addConditions_23 (by decide) (fun _ => ?_) (fun h => (h (by decide)).elim)
  refine lv_iinc (k := 0) (v := 2) (lv' := [(7, .int 2), (5, .long 0), (0, .ref a2), (1, .int 0), (2, .int (-1)), (3, .long 0)]) hx hb d_Pf_addConditions_92 hl rfl (by decide) (by decide) rfl (fun ls hln => ?_)
  replace hl : lv_has ls 10 [(7, .int 2), (5, .long 0), (0, .ref a2), (1, .int 0), (2, .int (-1)), (3, .long 0)] := hln
  clear hln
  refine lv_goto (tgt := 9) hx hb d_Pf_addConditions_95 (by decide) ?_
  refine lv_iload hx hb d_Pf_addConditions_9 (lv_at hl 0 rfl) ?_
  refine lv_bipush (v := 8) hx hb d_Pf_addConditions_11 (by decide) ?_
  refine lv_icmp_ge (tgt := 98) hx hb d_Pf_addConditions_13 (by decide) (fun h => absurd h (by decide)) (fun _ => ?_)
  refine lv_iload_n hx hb d_Pf_addConditions_16 rfl (lv_at hl 3 rfl) ?_
  refine lv_i2l (v := 0) hx hb d_Pf_addConditions_17 (by decide) ?_
  refine lv_iload hx hb d_Pf_addConditions_18 (lv_at hl 0 rfl) ?_
  have hPc : va_P (dC, dI) clA [] _ := pu_P (H := H5)
  have hDc : va_D (fun _ => True) [] := pu_D
  have hFc := pu_free hS hA
  refine va_calli (va_runSN (As := [.long 0, .int 2]) (rest := []) ⟨hx, hb, hml, hown, ht⟩ (c_NU_has_0_2 l dC dI cI cL cZ _  ) ⟨va_cnB 2 ht (goodA wd_2_102) rfl rfl rfl hN.2.2.2.2.1 (ht _ wd_1_1) (by decide +kernel) ⟨Nat.le_of_ble_eq_true rfl, Nat.le_of_ble_eq_true rfl⟩, ht _ wd_2_101, trivial⟩ ⟨fun a U g mk q => by obtain ⟨q0, q1, qP, qK, qD, qN⟩ := q; exact ⟨q0, q1, qP, va_K.moved (u := U) (U := U.calling g mk a) (Vm.Alike.refl U.vm) qK, qD, NwA.same (u := U) rfl qN⟩, fun U hU hW => ⟨rfl, by rw [hU], by rw [hU]; exact hPc, va_K.moved hW.alike hK, hDc.weaken (fun _ _ _ _ => trivial), NwA.warm hW hN⟩⟩ rfl rfl hl.1 rfl (lv_room (Nat.le_of_ble_eq_true rfl)) d_Pf_addConditions_20 ⟨Nat.le_of_ble_eq_true rfl, Nat.le_of_ble_eq_true rfl⟩) hS (fun q _ h => hFc q h) hFc (fun r9 u t H7 locs ht9 hvm hw8 hB hz1 hk1 hSn => ?_)
  replace hP : va_P (dC, dI) clA [(a2, .inr (2, [.int 0, .ref a8, .ref a9, .ref a10, .ref a11, .ref a12, .int 0, .ref a13, .ref a14, .ref a15, .ref a16, .ref a17, .int 0, .int 0]))] H7 := pu_keep hP hk1
  replace hS := hSn
  clear hSn hPc hDc hFc hk1 hz1 ht9 hvm hB
  refine W.cs (cells' := 0) (slots' := 0) rfl rfl ?_
  subst hw8
  refine lv_if_eq (tgt := 92) hx hb d_Pf_addConditions_23 (by decide) (fun _ => ?_) (fun h => (h (by decide)).elim)
  refine lv_iinc (k := 0) (v := 3) (lv' := [(7, .int 3), (5, .long 0), (0, .ref a2), (1, .int 0), (2, .int (-1)), (3, .long 0)]) hx hb d_Pf_addConditions_92 hl rfl (by decide) (by decide) rfl (fun ls hln => ?_)
  replace hl : lv_has ls 10 [(7, .int 3), (5, .long 0), (0, .ref a2), (1, .int 0), (2, .int (-1)), (3, .long 0)] := hln
  clear hln
  refine lv_goto (tgt := 9) hx hb d_Pf_addConditions_95 (by decide) ?_
  refine lv_iload hx hb d_Pf_addConditions_9 (lv_at hl 0 rfl) ?_
  refine lv_bipush (v := 8) hx hb d_Pf_addConditions_11 (by decide) ?_
  refine lv_icmp_ge (tgt := 98) hx hb d_Pf_addConditions_13 (by decide) (fun h => absurd h (by decide)) (fun _ => ?_)
  refine lv_iload_n hx hb d_Pf_addConditions_16 rfl (lv_at hl 3 rfl) ?_
  refine lv_i2l (v := 0) hx hb d_Pf_addConditions_17 (by decide) ?_
  refine lv_iload hx hb d_Pf_addConditions_18 (lv_at hl 0 rfl) ?_
  have hPc : va_P (dC, dI) clA [] _ := pu_P (H := H7)
  have hDc : va_D (fun _ => True) [] := pu_D
  have hFc := pu_free hS hA
  refine va_calli (va_runSN (As := [.long 0, .int 3]) (rest := []) ⟨hx, hb, hml, hown, ht⟩ (c_NU_has_0_3 l dC dI cI cL cZ _  ) ⟨va_cnB 2 ht (goodA wd_2_102) rfl rfl rfl hN.2.2.2.2.1 (ht _ wd_1_1) (by decide +kernel) ⟨Nat.le_of_ble_eq_true rfl, Nat.le_of_ble_eq_true rfl⟩, ht _ wd_2_101, trivial⟩ ⟨fun a U g mk q => by obtain ⟨q0, q1, qP, qK, qD, qN⟩ := q; exact ⟨q0, q1, qP, va_K.moved (u := U) (U := U.calling g mk a) (Vm.Alike.refl U.vm) qK, qD, NwA.same (u := U) rfl qN⟩, fun U hU hW => ⟨rfl, by rw [hU], by rw [hU]; exact hPc, va_K.moved hW.alike hK, hDc.weaken (fun _ _ _ _ => trivial), NwA.warm hW hN⟩⟩ rfl rfl hl.1 rfl (lv_room (Nat.le_of_ble_eq_true rfl)) d_Pf_addConditions_20 ⟨Nat.le_of_ble_eq_true rfl, Nat.le_of_ble_eq_true rfl⟩) hS (fun q _ h => hFc q h) hFc (fun r9 u t H9 locs ht9 hvm hw10 hB hz1 hk1 hSn => ?_)
  replace hP : va_P (dC, dI) clA [(a2, .inr (2, [.int 0, .ref a8, .ref a9, .ref a10, .ref a11, .ref a12, .int 0, .ref a13, .ref a14, .ref a15, .ref a16, .ref a17, .int 0, .int 0]))] H9 := pu_keep hP hk1
  replace hS := hSn
  clear hSn hPc hDc hFc hk1 hz1 ht9 hvm hB
  refine W.cs (cells' := 0) (slots' := 0) rfl rfl ?_
  subst hw10
  refine lv_if_eq (tgt := 92) hx hb d_Pf_addConditions_23 (by decide) (fun _ => ?_) (fun h => (h (by decide)).elim)
  refine lv_iinc (k := 0) (v := 4) (lv' := [(7, .int 4), (5, .long 0), (0, .ref a2), (1, .int 0), (2, .int (-1)), (3, .long 0)]) hx hb d_Pf_addConditions_92 hl rfl (by decide) (by decide) rfl (fun ls hln => ?_)
  replace hl : lv_has ls 10 [(7, .int 4), (5, .long 0), (0, .ref a2), (1, .int 0), (2, .int (-1)), (3, .long 0)] := hln
  clear hln
  refine lv_goto (tgt := 9) hx hb d_Pf_addConditions_95 (by decide) ?_
  refine lv_iload hx hb d_Pf_addConditions_9 (lv_at hl 0 rfl) ?_
  refine lv_bipush (v := 8) hx hb d_Pf_addConditions_11 (by decide) ?_
  refine lv_icmp_ge (tgt := 98) hx hb d_Pf_addConditions_13 (by decide) (fun h => absurd h (by decide)) (fun _ => ?_)
  refine lv_iload_n hx hb d_Pf_addConditions_16 rfl (lv_at hl 3 rfl) ?_
  refine lv_i2l (v := 0) hx hb d_Pf_addConditions_17 (by decide) ?_
  refine lv_iload hx hb d_Pf_addConditions_18 (lv_at hl 0 rfl) ?_
  have hPc : va_P (dC, dI) clA [] _ := pu_P (H := H9)
  have hDc : va_D (fun _ => True) [] := pu_D
  have hFc := pu_free hS hA
  refine va_calli (va_runSN (As := [.long 0, .int 4]) (rest := []) ⟨hx, hb, hml, hown, ht⟩ (c_NU_has_0_4 l dC dI cI cL cZ _  ) ⟨va_cnB 2 ht (goodA wd_2_102) rfl rfl rfl hN.2.2.2.2.1 (ht _ wd_1_1) (by decide +kernel) ⟨Nat.le_of_ble_eq_true rfl, Nat.le_of_ble_eq_true rfl⟩, ht _ wd_2_101, trivial⟩ ⟨fun a U g mk q => by obtain ⟨q0, q1, qP, qK, qD, qN⟩ := q; exact ⟨q0, q1, qP, va_K.moved (u := U) (U := U.calling g mk a) (Vm.Alike.refl U.vm) qK, qD, NwA.same (u := U) rfl qN⟩, fun U hU hW => ⟨rfl, by rw [hU], by rw [hU]; exact hPc, va_K.moved hW.alike hK, hDc.weaken (fun _ _ _ _ => trivial), NwA.warm hW hN⟩⟩ rfl rfl hl.1 rfl (lv_room (Nat.le_of_ble_eq_true rfl)) d_Pf_addConditions_20 ⟨Nat.le_of_ble_eq_true rfl, Nat.le_of_ble_eq_true rfl⟩) hS (fun q _ h => hFc q h) hFc (fun r9 u t H11 locs ht9 hvm hw12 hB hz1 hk1 hSn => ?_)
  replace hP : va_P (dC, dI) clA [(a2, .inr (2, [.int 0, .ref a8, .ref a9, .ref a10, .ref a11, .ref a12, .int 0, .ref a13, .ref a14, .ref a15, .ref a16, .ref a17, .int 0, .int 0]))] H11 := pu_keep hP hk1
  replace hS := hSn
  clear hSn hPc hDc hFc hk1 hz1 ht9 hvm hB
  refine W.cs (cells' := 0) (slots' := 0) rfl rfl ?_
  subst hw12
  refine lv_if_eq (tgt := 92) hx hb d_Pf_addConditions_23 (by decide) (fun _ => ?_) (fun h => (h (by decide)).elim)
  refine lv_iinc (k := 0) (v := 5) (lv' := [(7, .int 5), (5, .long 0), (0, .ref a2), (1, .int 0), (2, .int (-1)), (3, .long 0)]) hx hb d_Pf_addConditions_92 hl rfl (by decide) (by decide) rfl (fun ls hln => ?_)
  replace hl : lv_has ls 10 [(7, .int 5), (5, .long 0), (0, .ref a2), (1, .int 0), (2, .int (-1)), (3, .long 0)] := hln
  clear hln
  refine lv_goto (tgt := 9) hx hb d_Pf_addConditions_95 (by decide) ?_
  refine lv_iload hx hb d_Pf_addConditions_9 (lv_at hl 0 rfl) ?_
  refine lv_bipush (v := 8) hx hb d_Pf_addConditions_11 (by decide) ?_
  refine lv_icmp_ge (tgt := 98) hx hb d_Pf_addConditions_13 (by decide) (fun h => absurd h (by decide)) (fun _ => ?_)
  refine lv_iload_n hx hb d_Pf_addConditions_16 rfl (lv_at hl 3 rfl) ?_
  refine lv_i2l (v := 0) hx hb d_Pf_addConditions_17 (by decide) ?_
  refine lv_iload hx hb d_Pf_addConditions_18 (lv_at hl 0 rfl) ?_
  have hPc : va_P (dC, dI) clA [] _ := pu_P (H := H11)
  have hDc : va_D (fun _ => True) [] := pu_D
  have hFc := pu_free hS hA
  refine va_calli (va_runSN (As := [.long 0, .int 5]) (rest := []) ⟨hx, hb, hml, hown, ht⟩ (c_NU_has_0_5 l dC dI cI cL cZ _  ) ⟨va_cnB 2 ht (goodA wd_2_102) rfl rfl rfl hN.2.2.2.2.1 (ht _ wd_1_1) (by decide +kernel) ⟨Nat.le_of_ble_eq_true rfl, Nat.le_of_ble_eq_true rfl⟩, ht _ wd_2_101, trivial⟩ ⟨fun a U g mk q => by obtain ⟨q0, q1, qP, qK, qD, qN⟩ := q; exact ⟨q0, q1, qP, va_K.moved (u := U) (U := U.calling g mk a) (Vm.Alike.refl U.vm) qK, qD, NwA.same (u := U) rfl qN⟩, fun U hU hW => ⟨rfl, by rw [hU], by rw [hU]; exact hPc, va_K.moved hW.alike hK, hDc.weaken (fun _ _ _ _ => trivial), NwA.warm hW hN⟩⟩ rfl rfl hl.1 rfl (lv_room (Nat.le_of_ble_eq_true rfl)) d_Pf_addConditions_20 ⟨Nat.le_of_ble_eq_true rfl, Nat.le_of_ble_eq_true rfl⟩) hS (fun q _ h => hFc q h) hFc (fun r9 u t H13 locs ht9 hvm hw14 hB hz1 hk1 hSn => ?_)
  replace hP : va_P (dC, dI) clA [(a2, .inr (2, [.int 0, .ref a8, .ref a9, .ref a10, .ref a11, .ref a12, .int 0, .ref a13, .ref a14, .ref a15, .ref a16, .ref a17, .int 0, .int 0]))] H13 := pu_keep hP hk1
  replace hS := hSn
  clear hSn hPc hDc hFc hk1 hz1 ht9 hvm hB
  refine W.cs (cells' := 0) (slots' := 0) rfl rfl ?_
  subst hw14
  refine lv_if_eq (tgt := 92) hx hb d_Pf_addConditions_23 (by decide) (fun _ => ?_) (fun h => (h (by decide)).elim)
  refine lv_iinc (k := 0) (v := 6) (lv' := [(7, .int 6), (5, .long 0), (0, .ref a2), (1, .int 0), (2, .int (-1)), (3, .long 0)]) hx hb d_Pf_addConditions_92 hl rfl (by decide) (by decide) rfl (fun ls hln => ?_)
  replace hl : lv_has ls 10 [(7, .int 6), (5, .long 0), (0, .ref a2), (1, .int 0), (2, .int (-1)), (3, .long 0)] := hln
  clear hln
  refine lv_goto (tgt := 9) hx hb d_Pf_addConditions_95 (by decide) ?_
  refine lv_iload hx hb d_Pf_addConditions_9 (lv_at hl 0 rfl) ?_
  refine lv_bipush (v := 8) hx hb d_Pf_addConditions_11 (by decide) ?_
  refine lv_icmp_ge (tgt := 98) hx hb d_Pf_addConditions_13 (by decide) (fun h => absurd h (by decide)) (fun _ => ?_)
  refine lv_iload_n hx hb d_Pf_addConditions_16 rfl (lv_at hl 3 rfl) ?_
  refine lv_i2l (v := 0) hx hb d_Pf_addConditions_17 (by decide) ?_
  refine lv_iload hx hb d_Pf_addConditions_18 (lv_at hl 0 rfl) ?_
  have hPc : va_P (dC, dI) clA [] _ := pu_P (H := H13)
  have hDc : va_D (fun _ => True) [] := pu_D
  have hFc := pu_free hS hA
  refine va_calli (va_runSN (As := [.long 0, .int 6]) (rest := []) ⟨hx, hb, hml, hown, ht⟩ (c_NU_has_0_6 l dC dI cI cL cZ _  ) ⟨va_cnB 2 ht (goodA wd_2_102) rfl rfl rfl hN.2.2.2.2.1 (ht _ wd_1_1) (by decide +kernel) ⟨Nat.le_of_ble_eq_true rfl, Nat.le_of_ble_eq_true rfl⟩, ht _ wd_2_101, trivial⟩ ⟨fun a U g mk q => by obtain ⟨q0, q1, qP, qK, qD, qN⟩ := q; exact ⟨q0, q1, qP, va_K.moved (u := U) (U := U.calling g mk a) (Vm.Alike.refl U.vm) qK, qD, NwA.same (u := U) rfl qN⟩, fun U hU hW => ⟨rfl, by rw [hU], by rw [hU]; exact hPc, va_K.moved hW.alike hK, hDc.weaken (fun _ _ _ _ => trivial), NwA.warm hW hN⟩⟩ rfl rfl hl.1 rfl (lv_room (Nat.le_of_ble_eq_true rfl)) d_Pf_addConditions_20 ⟨Nat.le_of_ble_eq_true rfl, Nat.le_of_ble_eq_true rfl⟩) hS (fun q _ h => hFc q h) hFc (fun r9 u t H15 locs ht9 hvm hw16 hB hz1 hk1 hSn => ?_)
  replace hP : va_P (dC, dI) clA [(a2, .inr (2, [.int 0, .ref a8, .ref a9, .ref a10, .ref a11, .ref a12, .int 0, .ref a13, .ref a14, .ref a15, .ref a16, .ref a17, .int 0, .int 0]))] H15 := pu_keep hP hk1
  replace hS := hSn
  clear hSn hPc hDc hFc hk1 hz1 ht9 hvm hB
  refine W.cs (cells' := 0) (slots' := 0) rfl rfl ?_
  subst hw16
  refine lv_if_eq (tgt := 92) hx hb d_Pf_addConditions_23 (by decide) (fun _ => ?_) (fun h => (h (by decide)).elim)
  refine lv_iinc (k := 0) (v := 7) (lv' := [(7, .int 7), (5, .long 0), (0, .ref a2), (1, .int 0), (2, .int (-1)), (3, .long 0)]) hx hb d_Pf_addConditions_92 hl rfl (by decide) (by decide) rfl (fun ls hln => ?_)
  replace hl : lv_has ls 10 [(7, .int 7), (5, .long 0), (0, .ref a2), (1, .int 0), (2, .int (-1)), (3, .long 0)] := hln
  clear hln
  refine lv_goto (tgt := 9) hx hb d_Pf_addConditions_95 (by decide) ?_
  refine lv_iload hx hb d_Pf_addConditions_9 (lv_at hl 0 rfl) ?_
  refine lv_bipush (v := 8) hx hb d_Pf_addConditions_11 (by decide) ?_
  refine lv_icmp_ge (tgt := 98) hx hb d_Pf_addConditions_13 (by decide) (fun h => absurd h (by decide)) (fun _ => ?_)
  refine lv_iload_n hx hb d_Pf_addConditions_16 rfl (lv_at hl 3 rfl) ?_
  refine lv_i2l (v := 0) hx hb d_Pf_addConditions_17 (by decide) ?_
  refine lv_iload hx hb d_Pf_addConditions_18 (lv_at hl 0 rfl) ?_
  have hPc : va_P (dC, dI) clA [] _ := pu_P (H := H15)
  have hDc : va_D (fun _ => True) [] := pu_D
  have hFc := pu_free hS hA
  refine va_calli (va_runSN (As := [.long 0, .int 7]) (rest := []) ⟨hx, hb, hml, hown, ht⟩ (c_NU_has_0_7 l dC dI cI cL cZ _  ) ⟨va_cnB 2 ht (goodA wd_2_102) rfl rfl rfl hN.2.2.2.2.1 (ht _ wd_1_1) (by decide +kernel) ⟨Nat.le_of_ble_eq_true rfl, Nat.le_of_ble_eq_true rfl⟩, ht _ wd_2_101, trivial⟩ ⟨fun a U g mk q => by obtain ⟨q0, q1, qP, qK, qD, qN⟩ := q; exact ⟨q0, q1, qP, va_K.moved (u := U) (U := U.calling g mk a) (Vm.Alike.refl U.vm) qK, qD, NwA.same (u := U) rfl qN⟩, fun U hU hW => ⟨rfl, by rw [hU], by rw [hU]; exact hPc, va_K.moved hW.alike hK, hDc.weaken (fun _ _ _ _ => trivial), NwA.warm hW hN⟩⟩ rfl rfl hl.1 rfl (lv_room (Nat.le_of_ble_eq_true rfl)) d_Pf_addConditions_20 ⟨Nat.le_of_ble_eq_true rfl, Nat.le_of_ble_eq_true rfl⟩) hS (fun q _ h => hFc q h) hFc (fun r9 u t H17 locs ht9 hvm hw18 hB hz1 hk1 hSn => ?_)
  replace hP : va_P (dC, dI) clA [(a2, .inr (2, [.int 0, .ref a8, .ref a9, .ref a10, .ref a11, .ref a12, .int 0, .ref a13, .ref a14, .ref a15, .ref a16, .ref a17, .int 0, .int 0]))] H17 := pu_keep hP hk1
  replace hS := hSn
  clear hSn hPc hDc hFc hk1 hz1 ht9 hvm hB
  refine W.cs (cells' := 0) (slots' := 0) rfl rfl ?_
  subst hw18
  refine lv_if_eq (tgt := 92) hx hb d_Pf_addConditions_23 (by decide) (fun _ => ?_) (fun h => (h (by decide)).elim)
  refine lv_iinc (k := 0) (v := 8) (lv' := [(7, .int 8), (5, .long 0), (0, .ref a2), (1, .int 0), (2, .int (-1)), (3, .long 0)]) hx hb d_Pf_addConditions_92 hl rfl (by decide) (by decide) rfl (fun ls hln => ?_)
  replace hl : lv_has ls 10 [(7, .int 8), (5, .long 0), (0, .ref a2), (1, .int 0), (2, .int (-1)), (3, .long 0)] := hln
  clear hln
  refine lv_goto (tgt := 9) hx hb d_Pf_addConditions_95 (by decide) ?_
  refine lv_iload hx hb d_Pf_addConditions_9 (lv_at hl 0 rfl) ?_
  refine lv_bipush (v := 8) hx hb d_Pf_addConditions_11 (by decide) ?_
  refine lv_icmp_ge (tgt := 98) hx hb d_Pf_addConditions_13 (by decide) (fun _ => ?_) (fun h => (h (by decide)).elim)
  refine lv_aload_n hx hb d_Pf_addConditions_98 rfl (lv_at hl 2 rfl) ?_
  have hPc := hP.sub (ws' := [(a2, .inr (2, [.int 0, .ref a8, .ref a9, .ref a10, .ref a11, .ref a12, .int 0, .ref a13, .ref a14, .ref a15, .ref a16, .ref a17, .int 0, .int 0]))]) [0] rfl
  have hDc := hD.sub (ws' := [(a2, .inr (2, [.int 0, .ref a8, .ref a9, .ref a10, .ref a11, .ref a12, .int 0, .ref a13, .ref a14, .ref a15, .ref a16, .ref a17, .int 0, .int 0]))]) [0] (by decide) rfl
  have hFc := va_free (wc := [(a2, .inr (2, [.int 0, .ref a8, .ref a9, .ref a10, .ref a11, .ref a12, .int 0, .ref a13, .ref a14, .ref a15, .ref a16, .ref a17, .int 0, .int 0]))]) hD hS hA [0] rfl
  refine va_calll (va_runV (C := "NetUnfolder$Prefix") (As := []) (rest := []) ⟨hx, hb, hml, hown, ht⟩ (c_Pf_allConditions l dC dI cI cL cZ _ a2 a8 a9 a10 a11 a12 a13 a14 a15 a16 a17 ) (cwV 0 ht (good_V wd_2_96 wd_2_97 wd_2_98 wd_1_3 wd_2_99) rfl rfl rfl (by decide +kernel) ⟨Nat.le_of_ble_eq_true rfl, Nat.le_of_ble_eq_true rfl⟩) ⟨fun a U g mk q => by obtain ⟨q0, q1, qP, qK, qD, qN⟩ := q; exact ⟨q0, q1, qP, va_K.moved (u := U) (U := U.calling g mk a) (Vm.Alike.refl U.vm) qK, qD, NwA.same (u := U) rfl qN⟩, (va_recv (q0 := 0) (ci := 2) hK hP rfl rfl), fun U hU hW => ⟨rfl, by rw [hU], by rw [hU]; exact hPc, va_K.moved hW.alike hK, hDc.weaken (fun _ _ _ _ => trivial), NwA.warm hW hN⟩⟩ rfl rfl hl.1 rfl (lv_room (Nat.le_of_ble_eq_true rfl)) d_Pf_addConditions_99 ⟨Nat.le_of_ble_eq_true rfl, Nat.le_of_ble_eq_true rfl⟩) hS (fun q _ h => hFc q h) hFc (fun r9 u t H19 locs ht9 hvm hw20 hB hz1 hk1 hSn => ?_)
  obtain ⟨hP1, hD1⟩ := hB
  rw [ht9] at hP1
  obtain ⟨hPn, hDn⟩ := va_join (wr := []) (w1 := [(a2, .inr (2, [.int 0, .ref a8, .ref a9, .ref a10, .ref a11, .ref a12, .int 0, .ref a13, .ref a14, .ref a15, .ref a16, .ref a17, .int 0, .int 0]))]) hP hD [0] [] rfl rfl (by decide) (by decide) hk1 hFc hP1 hD1
  replace hP : va_P (dC, dI) clA [(a2, .inr (2, [.int 0, .ref a8, .ref a9, .ref a10, .ref a11, .ref a12, .int 0, .ref a13, .ref a14, .ref a15, .ref a16, .ref a17, .int 0, .int 0]))] H19 := hPn
  replace hD : va_D A [(a2, .inr (2, [.int 0, .ref a8, .ref a9, .ref a10, .ref a11, .ref a12, .int 0, .ref a13, .ref a14, .ref a15, .ref a16, .ref a17, .int 0, .int 0]))] := hDn
  replace hS := hSn
  clear hPn hDn hSn
  clear hPc hDc hFc hP1 hD1 hk1 hz1 ht9 hvm
  refine W.cs (cells' := 0) (slots' := 0) rfl rfl ?_
  subst hw20
  refine lv_lload hx hb d_Pf_addConditions_102 (lv_at hl 1 rfl) ?_
  refine lv_ldc2 hx hb hown (ht _ wd_2_103) d_Pf_addConditions_104 ?_
  refine lv_lxor hx hb d_Pf_addConditions_107 ?_
  refine ci_l (y := (-1)) (by decide) ?_
  refine lv_land hx hb d_Pf_addConditions_108 ?_
  refine ci_l (y := 0) (by decide) ?_
  refine lv_lstore (lv' := [(7, .long 0), (5, .long 0), (0, .ref a2), (1, .int 0), (2, .int (-1)), (3, .long 0)]) hx hb d_Pf_addConditions_109 hl (by decide) rfl (fun ls hln => ?_)
  replace hl : lv_has ls 10 [(7, .long 0), (5, .long 0), (0, .ref a2), (1, .int 0), (2, .int (-1)), (3, .long 0)] := hln
  clear hln
  refine lv_iconst (v := 0) hx hb d_Pf_addConditions_111 (by decide) ?_
  refine lv_istore (lv' := [(9, .int 0), (7, .long 0), (5, .long 0), (0, .ref a2), (1, .int 0), (2, .int (-1)), (3, .long 0)]) hx hb d_Pf_addConditions_112 hl (by decide) rfl (fun ls hln => ?_)
  replace hl : lv_has ls 10 [(9, .int 0), (7, .long 0), (5, .long 0), (0, .ref a2), (1, .int 0), (2, .int (-1)), (3, .long 0)] := hln
  clear hln
  refine lv_iload hx hb d_Pf_addConditions_114 (lv_at hl 0 rfl) ?_
  refine lv_aload_n hx hb d_Pf_addConditions_116 rfl (lv_at hl 3 rfl) ?_
  refine va_get (D := (dC, dI)) (ci := 2) (v := .int 0) (C := "NetUnfolder$Prefix") (T := T_Pf) (N := 14) hx hb ht in_Pf hown hK hP 0 rfl rfl 0 (by decide) (ht _ wd_1_62) (fun _ h9 => h9) rfl d_Pf_addConditions_117 ?_
  refine lv_icmp_ge (tgt := 183) hx hb d_Pf_addConditions_120 (by decide) (fun _ => ?_) (fun h => (h (by decide)).elim)
  refine lv_lload hx hb d_Pf_addConditions_183 (lv_at hl 1 rfl) ?_
  have hP9 := hP.sub (ws' := [(a2, .inr (2, [.int 0, .ref a8, .ref a9, .ref a10, .ref a11, .ref a12, .int 0, .ref a13, .ref a14, .ref a15, .ref a16, .ref a17, .int 0, .int 0]))]) [0] rfl
  have hD9 := hD.sub (ws' := [(a2, .inr (2, [.int 0, .ref a8, .ref a9, .ref a10, .ref a11, .ref a12, .int 0, .ref a13, .ref a14, .ref a15, .ref a16, .ref a17, .int 0, .int 0]))]) [0] (by decide) rfl
  exact W.lret (v := 0) hx hb hr (fun t ht9 hW => ⟨⟨0, (), rfl, rfl, by rw [ht9]; exact hP9, hD9⟩, hS.F ht9⟩) hS.2.2 d_Pf_addConditions_185

set_option maxHeartbeats 4000000 in
set_option maxRecDepth 100000 in
theorem c_Po_wipe (l : Launch) (dC : Nat → ClassId) (dI : Nat → Nat → Nat) (cI cL cZ : ClassId) (sz : Nat) (a19 : Nat) (a2 : Nat) (a22 : Nat) (a23 : Nat) (a24 : Nat) : Met l y_Po_wipe (Cond.code y_Po_wipe prog_4_method_2_code 1 none :: wsA) { frames := 0, cells := 0, slots := 0, locals := 0 } (va_Pc [.ref a19] (fun U => U.heap.size = sz ∧ va_P (dC, dI) clA [(a19, .inr (5, [.ref a2, .int 0, .ref a22, .ref a23, .ref a24]))] U.heap ∧ va_K (dC, dI) clA [(cI, .int), (cL, .long), (cZ, .boolean)] U ∧ va_D (fun _ => True) [(a19, .inr (5, [.ref a2, .int 0, .ref a22, .ref a23, .ref a24]))] ∧ NwA U)) (va_Qv (fun _ : Unit => True) (fun _ t => va_P (dC, dI) clA [(a19, .inr (5, [.ref a2, .int 0, .ref a22, .ref a23, .ref a24]))] t.heap ∧ va_D (va_A [(a19, .inr (5, [.ref a2, .int 0, .ref a22, .ref a23, .ref a24]))] sz) [(a19, .inr (5, [.ref a2, .int 0, .ref a22, .ref a23, .ref a24]))]) (va_A [(a19, .inr (5, [.ref a2, .int 0, .ref a22, .ref a23, .ref a24]))] sz)) 0 0 (va_A [(a19, .inr (5, [.ref a2, .int 0, .ref a22, .ref a23, .ref a24]))] sz) := by
  refine Met.ofW (cc := prog_4_method_2_code) (maxL := 1) (ret := none) (by decide) rfl ?_
  intro p e s m args below meth c s₁ B hml hv
  obtain ⟨rfl, hsz, hP, hK, hD0, hN⟩ := hv
  have hx := B.exec
  have hb := B.bytes
  have hr := B.returns
  have ht : ∀ w ∈ wsA, w.before _ s = true := fun w h => atoms_spec (ws := (Cond.code y_Po_wipe prog_4_method_2_code 1 none :: wsA)) B.pre w (List.mem_cons_of_mem _ h)
  have hown : s.vm.findClass "NetUnfolder$Possible" = some m.cls := findClass_of_methodNamed B.named
  have hlocks := B.notSynchronized
  subst hsz
  have hD := hD0.self (sz := s.heap.size)
  generalize hAe : va_A [(a19, .inr (5, [.ref a2, .int 0, .ref a22, .ref a23, .ref a24]))] s.heap.size = A at hD ⊢
  have hA : ∀ q : Nat, s.heap.size ≤ q → A q := fun q h => by rw [← hAe]; exact Or.inr h
  have hS : va_S A s.heap s.heap [] := va_S.rf
  have hl := lv_entry ([.ref a19]) (n := 1) (Nat.le_of_ble_eq_true rfl)
  rw [lg_entry_eq]
  generalize (lg_sl ([.ref a19]) ++ List.replicate (1 - (lg_sl ([.ref a19])).length) Slot.unset).toArray = ls at hl ⊢
  replace hl : lv_has ls 1 [(0, .ref a19)] := hl
  refine lv_aload_n hx hb d_Po_wipe_0 rfl (lv_at hl 0 rfl) ?_
  refine lv_iconst (v := 0) hx hb d_Po_wipe_1 (by decide) ?_
  refine va_put (D := (dC, dI)) (ci := 5) (v := .int 0) (ty := .int) (C := "NetUnfolder$Possible") (T := T_Po) (N := 5) hx hb ht in_Po ty_Po ok_Po nm_Po hown hK hP hD hS 0 rfl rfl 1 (by decide) (ht _ wd_1_165) (fun _ h9 => h9) rfl (by decide +kernel) rfl rfl (Nat.le_of_ble_eq_true rfl) d_Po_wipe_2 (fun H1 locs hPn hDn hSn => ?_)
  replace hP : va_P (dC, dI) clA [(a19, .inr (5, [.ref a2, .int 0, .ref a22, .ref a23, .ref a24]))] H1 := hPn
  replace hD : va_D A [(a19, .inr (5, [.ref a2, .int 0, .ref a22, .ref a23, .ref a24]))] := hDn
  replace hS := hSn
  clear hPn hDn hSn
  have hP9 := hP.sub (ws' := [(a19, .inr (5, [.ref a2, .int 0, .ref a22, .ref a23, .ref a24]))]) [0] rfl
  have hD9 := hD.sub (ws' := [(a19, .inr (5, [.ref a2, .int 0, .ref a22, .ref a23, .ref a24]))]) [0] (by decide) rfl
  exact W.vret hx hb hr (fun t ht9 hW => ⟨⟨(), rfl, trivial, by rw [ht9]; exact hP9, hD9⟩, hS.F ht9⟩) hS.2.2 d_Po_wipe_5

set_option maxHeartbeats 4000000 in
set_option maxRecDepth 100000 in
theorem c_Po_tooMany (l : Launch) (dC : Nat → ClassId) (dI : Nat → Nat → Nat) (cI cL cZ : ClassId) (sz : Nat) (a19 : Nat) (a2 : Nat) (a22 : Nat) (a23 : Nat) (a24 : Nat) : Met l y_Po_tooMany (Cond.code y_Po_tooMany prog_4_method_3_code 1 (some .boolean) :: wsA) { frames := 0, cells := 0, slots := 0, locals := 0 } (va_Pc [.ref a19] (fun U => U.heap.size = sz ∧ va_P (dC, dI) clA [(a19, .inr (5, [.ref a2, .int 0, .ref a22, .ref a23, .ref a24]))] U.heap ∧ va_K (dC, dI) clA [(cI, .int), (cL, .long), (cZ, .boolean)] U ∧ va_D (fun _ => True) [(a19, .inr (5, [.ref a2, .int 0, .ref a22, .ref a23, .ref a24]))] ∧ NwA U)) (va_Qi (fun r (_ : Unit) => r = 0) (fun _ t => va_P (dC, dI) clA [(a19, .inr (5, [.ref a2, .int 0, .ref a22, .ref a23, .ref a24]))] t.heap ∧ va_D (va_A [(a19, .inr (5, [.ref a2, .int 0, .ref a22, .ref a23, .ref a24]))] sz) [(a19, .inr (5, [.ref a2, .int 0, .ref a22, .ref a23, .ref a24]))]) (va_A [(a19, .inr (5, [.ref a2, .int 0, .ref a22, .ref a23, .ref a24]))] sz)) 0 0 (va_A [(a19, .inr (5, [.ref a2, .int 0, .ref a22, .ref a23, .ref a24]))] sz) := by
  refine Met.ofW (cc := prog_4_method_3_code) (maxL := 1) (ret := (some .boolean)) (by decide) rfl ?_
  intro p e s m args below meth c s₁ B hml hv
  obtain ⟨rfl, hsz, hP, hK, hD0, hN⟩ := hv
  have hx := B.exec
  have hb := B.bytes
  have hr := B.returns
  have ht : ∀ w ∈ wsA, w.before _ s = true := fun w h => atoms_spec (ws := (Cond.code y_Po_tooMany prog_4_method_3_code 1 (some .boolean) :: wsA)) B.pre w (List.mem_cons_of_mem _ h)
  have hown : s.vm.findClass "NetUnfolder$Possible" = some m.cls := findClass_of_methodNamed B.named
  have hlocks := B.notSynchronized
  subst hsz
  have hD := hD0.self (sz := s.heap.size)
  generalize hAe : va_A [(a19, .inr (5, [.ref a2, .int 0, .ref a22, .ref a23, .ref a24]))] s.heap.size = A at hD ⊢
  have hA : ∀ q : Nat, s.heap.size ≤ q → A q := fun q h => by rw [← hAe]; exact Or.inr h
  have hS : va_S A s.heap s.heap [] := va_S.rf
  have hl := lv_entry ([.ref a19]) (n := 1) (Nat.le_of_ble_eq_true rfl)
  rw [lg_entry_eq]
  generalize (lg_sl ([.ref a19]) ++ List.replicate (1 - (lg_sl ([.ref a19])).length) Slot.unset).toArray = ls at hl ⊢
  replace hl : lv_has ls 1 [(0, .ref a19)] := hl
  refine lv_aload_n hx hb d_Po_tooMany_0 rfl (lv_at hl 0 rfl) ?_
  refine va_get (D := (dC, dI)) (ci := 5) (v := .int 0) (C := "NetUnfolder$Possible") (T := T_Po) (N := 5) hx hb ht in_Po hown hK hP 0 rfl rfl 1 (by decide) (ht _ wd_1_165) (fun _ h9 => h9) rfl d_Po_tooMany_1 ?_
  refine lv_sipush (v := 200) hx hb d_Po_tooMany_4 (by decide) ?_
  refine lv_icmp_le (tgt := 14) hx hb d_Po_tooMany_7 (by decide) (fun _ => ?_) (fun h => (h (by decide)).elim)
  refine lv_iconst (v := 0) hx hb d_Po_tooMany_14 (by decide) ?_
  have hP9 := hP.sub (ws' := [(a19, .inr (5, [.ref a2, .int 0, .ref a22, .ref a23, .ref a24]))]) [0] rfl
  have hD9 := hD.sub (ws' := [(a19, .inr (5, [.ref a2, .int 0, .ref a22, .ref a23, .ref a24]))]) [0] (by decide) rfl
  exact W.zret (v := 0) hx hb hr rfl (fun t ht9 hW => ⟨⟨0, (), rfl, rfl, by rw [ht9]; exact hP9, hD9⟩, hS.F ht9⟩) hS.2.2 d_Po_tooMany_15

set_option maxHeartbeats 4000000 in
set_option maxRecDepth 100000 in
theorem c_Un_findPossible (l : Launch) (dC : Nat → ClassId) (dI : Nat → Nat → Nat) (cI cL cZ : ClassId) (sz : Nat) (a4 : Nat) (a1 : Nat) (a2 : Nat) (a3 : Nat) (a19 : Nat) (a6 : Nat) (a7 : Nat) : Met l y_Un_findPossible (Cond.code y_Un_findPossible prog_8_method_9_code 6 none :: wsA) { frames := 0, cells := 0, slots := 0, locals := 0 } (va_Pc [.ref a4, .long 0, .long 0] (fun U => U.heap.size = sz ∧ va_P (dC, dI) clA [(a4, .inr (4, [.ref a1, .ref a2, .ref a3, .ref a19])), (a1, .inr (1, [.ref a6, .ref a7, .int 0, .int 0]))] U.heap ∧ va_K (dC, dI) clA [(cI, .int), (cL, .long), (cZ, .boolean)] U ∧ va_D (fun _ => True) [(a4, .inr (4, [.ref a1, .ref a2, .ref a3, .ref a19])), (a1, .inr (1, [.ref a6, .ref a7, .int 0, .int 0]))] ∧ NwA U)) (va_Qv (fun _ : Unit => True) (fun _ t => va_P (dC, dI) clA [(a4, .inr (4, [.ref a1, .ref a2, .ref a3, .ref a19])), (a1, .inr (1, [.ref a6, .ref a7, .int 0, .int 0]))] t.heap ∧ va_D (va_A [(a4, .inr (4, [.ref a1, .ref a2, .ref a3, .ref a19])), (a1, .inr (1, [.ref a6, .ref a7, .int 0, .int 0]))] sz) [(a4, .inr (4, [.ref a1, .ref a2, .ref a3, .ref a19])), (a1, .inr (1, [.ref a6, .ref a7, .int 0, .int 0]))]) (va_A [(a4, .inr (4, [.ref a1, .ref a2, .ref a3, .ref a19])), (a1, .inr (1, [.ref a6, .ref a7, .int 0, .int 0]))] sz)) 0 0 (va_A [(a4, .inr (4, [.ref a1, .ref a2, .ref a3, .ref a19])), (a1, .inr (1, [.ref a6, .ref a7, .int 0, .int 0]))] sz) := by
  refine Met.ofW (cc := prog_8_method_9_code) (maxL := 6) (ret := none) (by decide) rfl ?_
  intro p e s m args below meth c s₁ B hml hv
  obtain ⟨rfl, hsz, hP, hK, hD0, hN⟩ := hv
  have hx := B.exec
  have hb := B.bytes
  have hr := B.returns
  have ht : ∀ w ∈ wsA, w.before _ s = true := fun w h => atoms_spec (ws := (Cond.code y_Un_findPossible prog_8_method_9_code 6 none :: wsA)) B.pre w (List.mem_cons_of_mem _ h)
  have hown : s.vm.findClass "NetUnfolder$Unfolding" = some m.cls := findClass_of_methodNamed B.named
  have hlocks := B.notSynchronized
  subst hsz
  have hD := hD0.self (sz := s.heap.size)
  generalize hAe : va_A [(a4, .inr (4, [.ref a1, .ref a2, .ref a3, .ref a19])), (a1, .inr (1, [.ref a6, .ref a7, .int 0, .int 0]))] s.heap.size = A at hD ⊢
  have hA : ∀ q : Nat, s.heap.size ≤ q → A q := fun q h => by rw [← hAe]; exact Or.inr h
  have hS : va_S A s.heap s.heap [] := va_S.rf
  have hl := lv_entry ([.ref a4, .long 0, .long 0]) (n := 6) (Nat.le_of_ble_eq_true rfl)
  rw [lg_entry_eq]
  generalize (lg_sl ([.ref a4, .long 0, .long 0]) ++ List.replicate (6 - (lg_sl ([.ref a4, .long 0, .long 0])).length) Slot.unset).toArray = ls at hl ⊢
  replace hl : lv_has ls 6 [(0, .ref a4), (1, .long 0), (3, .long 0)] := hl
  refine lv_iconst (v := 0) hx hb d_Un_findPossible_0 (by decide) ?_
  refine lv_istore (lv' := [(5, .int 0), (0, .ref a4), (1, .long 0), (3, .long 0)]) hx hb d_Un_findPossible_1 hl (by decide) rfl (fun ls hln => ?_)
  replace hl : lv_has ls 6 [(5, .int 0), (0, .ref a4), (1, .long 0), (3, .long 0)] := hln
  clear hln
  refine lv_iload hx hb d_Un_findPossible_3 (lv_at hl 0 rfl) ?_
  refine lv_aload_n hx hb d_Un_findPossible_5 rfl (lv_at hl 1 rfl) ?_
  refine va_get (D := (dC, dI)) (ci := 4) (v := .ref a1) (C := "NetUnfolder$Unfolding") (T := T_Un) (N := 4) hx hb ht in_Un hown hK hP 0 rfl rfl 0 (by decide) (ht _ wd_1_184) (fun _ h9 => h9) rfl d_Un_findPossible_6 ?_
  refine va_get (D := (dC, dI)) (ci := 1) (v := .int 0) (C := "NetUnfolder$Net") (T := T_Ne) (N := 4) hx hb ht in_Ne hown hK hP 1 rfl rfl 2 (by decide) (ht _ wd_1_41) (fun _ h9 => h9) rfl d_Un_findPossible_9 ?_
  refine lv_icmp_ge (tgt := 31) hx hb d_Un_findPossible_12 (by decide) (fun _ => ?_) (fun h => (h (by decide)).elim)
  have hP9 := hP.sub (ws' := [(a4, .inr (4, [.ref a1, .ref a2, .ref a3, .ref a19])), (a1, .inr (1, [.ref a6, .ref a7, .int 0, .int 0]))]) [0, 1] rfl
  have hD9 := hD.sub (ws' := [(a4, .inr (4, [.ref a1, .ref a2, .ref a3, .ref a19])), (a1, .inr (1, [.ref a6, .ref a7, .int 0, .int 0]))]) [0, 1] (by decide) rfl
  exact W.vret hx hb hr (fun t ht9 hW => ⟨⟨(), rfl, trivial, by rw [ht9]; exact hP9, hD9⟩, hS.F ht9⟩) hS.2.2 d_Un_findPossible_31

set_option maxHeartbeats 4000000 in
set_option maxRecDepth 100000 in
theorem c_Un_begin (l : Launch) (dC : Nat → ClassId) (dI : Nat → Nat → Nat) (cI cL cZ : ClassId) (sz : Nat) (a4 : Nat) (a1 : Nat) (a2 : Nat) (a12 : Nat) (a19 : Nat) (a3 : Nat) (a6 : Nat) (a7 : Nat) (a8 : Nat) (a9 : Nat) (a10 : Nat) (a11 : Nat) (a13 : Nat) (a14 : Nat) (a15 : Nat) (a16 : Nat) (a17 : Nat) (a22 : Nat) (a23 : Nat) (a24 : Nat) : Met l y_Un_begin (Cond.code y_Un_begin prog_8_method_3_code 3 none :: wsA) { frames := 2, cells := 0, slots := 0, locals := 51 } (va_Pc [.ref a4] (fun U => U.heap.size = sz ∧ va_P (dC, dI) clA [(a4, .inr (4, [.ref a1, .ref a2, .ref a3, .ref a19])), (a1, .inr (1, [.ref a6, .ref a7, .int 0, .int 0])), (a2, .inr (2, [.int 0, .ref a8, .ref a9, .ref a10, .ref a11, .ref a12, .int 0, .ref a13, .ref a14, .ref a15, .ref a16, .ref a17, .int 0, .int 0])), (a12, .inl (cL, 8, .inr (.inl (fun _ => 0)))), (a19, .inr (5, [.ref a2, .int 0, .ref a22, .ref a23, .ref a24]))] U.heap ∧ va_K (dC, dI) clA [(cI, .int), (cL, .long), (cZ, .boolean)] U ∧ va_D (fun _ => True) [(a4, .inr (4, [.ref a1, .ref a2, .ref a3, .ref a19])), (a1, .inr (1, [.ref a6, .ref a7, .int 0, .int 0])), (a2, .inr (2, [.int 0, .ref a8, .ref a9, .ref a10, .ref a11, .ref a12, .int 0, .ref a13, .ref a14, .ref a15, .ref a16, .ref a17, .int 0, .int 0])), (a12, .inl (cL, 8, .inr (.inl (fun _ => 0)))), (a19, .inr (5, [.ref a2, .int 0, .ref a22, .ref a23, .ref a24]))] ∧ NwA U)) (va_Qv (fun _ : Unit => True) (fun _ t => va_P (dC, dI) clA [(a12, .inl (cL, 8, .inr (.inl (fun _ => 0)))), (a19, .inr (5, [.ref a2, .int 0, .ref a22, .ref a23, .ref a24])), (a2, .inr (2, [.int 0, .ref a8, .ref a9, .ref a10, .ref a11, .ref a12, .int 0, .ref a13, .ref a14, .ref a15, .ref a16, .ref a17, .int 0, .int 0])), (a4, .inr (4, [.ref a1, .ref a2, .ref a3, .ref a19])), (a1, .inr (1, [.ref a6, .ref a7, .int 0, .int 0]))] t.heap ∧ va_D (va_A [(a4, .inr (4, [.ref a1, .ref a2, .ref a3, .ref a19])), (a1, .inr (1, [.ref a6, .ref a7, .int 0, .int 0])), (a2, .inr (2, [.int 0, .ref a8, .ref a9, .ref a10, .ref a11, .ref a12, .int 0, .ref a13, .ref a14, .ref a15, .ref a16, .ref a17, .int 0, .int 0])), (a12, .inl (cL, 8, .inr (.inl (fun _ => 0)))), (a19, .inr (5, [.ref a2, .int 0, .ref a22, .ref a23, .ref a24]))] sz) [(a12, .inl (cL, 8, .inr (.inl (fun _ => 0)))), (a19, .inr (5, [.ref a2, .int 0, .ref a22, .ref a23, .ref a24])), (a2, .inr (2, [.int 0, .ref a8, .ref a9, .ref a10, .ref a11, .ref a12, .int 0, .ref a13, .ref a14, .ref a15, .ref a16, .ref a17, .int 0, .int 0])), (a4, .inr (4, [.ref a1, .ref a2, .ref a3, .ref a19])), (a1, .inr (1, [.ref a6, .ref a7, .int 0, .int 0]))]) (va_A [(a4, .inr (4, [.ref a1, .ref a2, .ref a3, .ref a19])), (a1, .inr (1, [.ref a6, .ref a7, .int 0, .int 0])), (a2, .inr (2, [.int 0, .ref a8, .ref a9, .ref a10, .ref a11, .ref a12, .int 0, .ref a13, .ref a14, .ref a15, .ref a16, .ref a17, .int 0, .int 0])), (a12, .inl (cL, 8, .inr (.inl (fun _ => 0)))), (a19, .inr (5, [.ref a2, .int 0, .ref a22, .ref a23, .ref a24]))] sz)) 0 0 (va_A [(a4, .inr (4, [.ref a1, .ref a2, .ref a3, .ref a19])), (a1, .inr (1, [.ref a6, .ref a7, .int 0, .int 0])), (a2, .inr (2, [.int 0, .ref a8, .ref a9, .ref a10, .ref a11, .ref a12, .int 0, .ref a13, .ref a14, .ref a15, .ref a16, .ref a17, .int 0, .int 0])), (a12, .inl (cL, 8, .inr (.inl (fun _ => 0)))), (a19, .inr (5, [.ref a2, .int 0, .ref a22, .ref a23, .ref a24]))] sz) := by
  refine Met.ofW (cc := prog_8_method_3_code) (maxL := 3) (ret := none) (by decide) rfl ?_
  intro p e s m args below meth c s₁ B hml hv
  obtain ⟨rfl, hsz, hP, hK, hD0, hN⟩ := hv
  have hx := B.exec
  have hb := B.bytes
  have hr := B.returns
  have ht : ∀ w ∈ wsA, w.before _ s = true := fun w h => atoms_spec (ws := (Cond.code y_Un_begin prog_8_method_3_code 3 none :: wsA)) B.pre w (List.mem_cons_of_mem _ h)
  have hown : s.vm.findClass "NetUnfolder$Unfolding" = some m.cls := findClass_of_methodNamed B.named
  have hlocks := B.notSynchronized
  subst hsz
  have hD := hD0.self (sz := s.heap.size)
  generalize hAe : va_A [(a4, .inr (4, [.ref a1, .ref a2, .ref a3, .ref a19])), (a1, .inr (1, [.ref a6, .ref a7, .int 0, .int 0])), (a2, .inr (2, [.int 0, .ref a8, .ref a9, .ref a10, .ref a11, .ref a12, .int 0, .ref a13, .ref a14, .ref a15, .ref a16, .ref a17, .int 0, .int 0])), (a12, .inl (cL, 8, .inr (.inl (fun _ => 0)))), (a19, .inr (5, [.ref a2, .int 0, .ref a22, .ref a23, .ref a24]))] s.heap.size = A at hD ⊢
  have hA : ∀ q : Nat, s.heap.size ≤ q → A q := fun q h => by rw [← hAe]; exact Or.inr h
  have hS : va_S A s.heap s.heap [] := va_S.rf
  have hl := lv_entry ([.ref a4]) (n := 3) (Nat.le_of_ble_eq_true rfl)
  rw [lg_entry_eq]
  generalize (lg_sl ([.ref a4]) ++ List.replicate (3 - (lg_sl ([.ref a4])).length) Slot.unset).toArray = ls at hl ⊢
  replace hl : lv_has ls 3 [(0, .ref a4)] := hl
  refine lv_aload_n hx hb d_Un_begin_0 rfl (lv_at hl 0 rfl) ?_
  refine va_get (D := (dC, dI)) (ci := 4) (v := .ref a2) (C := "NetUnfolder$Unfolding") (T := T_Un) (N := 4) hx hb ht in_Un hown hK hP 0 rfl rfl 1 (by decide) (ht _ wd_1_185) (fun _ h9 => h9) rfl d_Un_begin_1 ?_
  have hPc := hP.sub (ws' := [(a2, .inr (2, [.int 0, .ref a8, .ref a9, .ref a10, .ref a11, .ref a12, .int 0, .ref a13, .ref a14, .ref a15, .ref a16, .ref a17, .int 0, .int 0])), (a12, .inl (cL, 8, .inr (.inl (fun _ => 0))))]) [2, 3] rfl
  have hDc := hD.sub (ws' := [(a2, .inr (2, [.int 0, .ref a8, .ref a9, .ref a10, .ref a11, .ref a12, .int 0, .ref a13, .ref a14, .ref a15, .ref a16, .ref a17, .int 0, .int 0])), (a12, .inl (cL, 8, .inr (.inl (fun _ => 0))))]) [2, 3] (by decide) rfl
  have hFc := va_free (wc := [(a2, .inr (2, [.int 0, .ref a8, .ref a9, .ref a10, .ref a11, .ref a12, .int 0, .ref a13, .ref a14, .ref a15, .ref a16, .ref a17, .int 0, .int 0])), (a12, .inl (cL, 8, .inr (.inl (fun _ => 0))))]) hD hS hA [2, 3] rfl
  refine va_callv (va_runV (C := "NetUnfolder$Prefix") (As := []) (rest := []) ⟨hx, hb, hml, hown, ht⟩ (c_Pf_wipe l dC dI cI cL cZ _ a2 a12 a8 a9 a10 a11 a13 a14 a15 a16 a17 ) (cwV 0 ht (good_V wd_2_87 wd_2_61 wd_2_62 wd_1_3 wd_2_63) rfl rfl rfl (by decide +kernel) ⟨Nat.le_of_ble_eq_true rfl, Nat.le_of_ble_eq_true rfl⟩) ⟨fun a U g mk q => by obtain ⟨q0, q1, qP, qK, qD, qN⟩ := q; exact ⟨q0, q1, qP, va_K.moved (u := U) (U := U.calling g mk a) (Vm.Alike.refl U.vm) qK, qD, NwA.same (u := U) rfl qN⟩, (va_recv (q0 := 2) (ci := 2) hK hP rfl rfl), fun U hU hW => ⟨rfl, by rw [hU], by rw [hU]; exact hPc, va_K.moved hW.alike hK, hDc.weaken (fun _ _ _ _ => trivial), NwA.warm hW hN⟩⟩ rfl rfl hl.1 rfl (lv_room (Nat.le_of_ble_eq_true rfl)) d_Un_begin_4 ⟨Nat.le_of_ble_eq_true rfl, Nat.le_of_ble_eq_true rfl⟩) hS (fun q _ h => hFc q h) hFc (fun u t H1 locs ht9 hvm hw2 hB hz1 hk1 hSn => ?_)
  obtain ⟨hP1, hD1⟩ := hB
  rw [ht9] at hP1
  obtain ⟨hPn, hDn⟩ := va_join (wr := [(a4, .inr (4, [.ref a1, .ref a2, .ref a3, .ref a19])), (a1, .inr (1, [.ref a6, .ref a7, .int 0, .int 0])), (a19, .inr (5, [.ref a2, .int 0, .ref a22, .ref a23, .ref a24]))]) (w1 := [(a2, .inr (2, [.int 0, .ref a8, .ref a9, .ref a10, .ref a11, .ref a12, .int 0, .ref a13, .ref a14, .ref a15, .ref a16, .ref a17, .int 0, .int 0])), (a12, .inl (cL, 8, .inr (.inl (fun _ => 0))))]) hP hD [2, 3] [0, 1, 4] rfl rfl (by decide) (by decide) hk1 hFc hP1 hD1
  replace hP : va_P (dC, dI) clA [(a4, .inr (4, [.ref a1, .ref a2, .ref a3, .ref a19])), (a1, .inr (1, [.ref a6, .ref a7, .int 0, .int 0])), (a19, .inr (5, [.ref a2, .int 0, .ref a22, .ref a23, .ref a24])), (a2, .inr (2, [.int 0, .ref a8, .ref a9, .ref a10, .ref a11, .ref a12, .int 0, .ref a13, .ref a14, .ref a15, .ref a16, .ref a17, .int 0, .int 0])), (a12, .inl (cL, 8, .inr (.inl (fun _ => 0))))] H1 := hPn
  replace hD : va_D A [(a4, .inr (4, [.ref a1, .ref a2, .ref a3, .ref a19])), (a1, .inr (1, [.ref a6, .ref a7, .int 0, .int 0])), (a19, .inr (5, [.ref a2, .int 0, .ref a22, .ref a23, .ref a24])), (a2, .inr (2, [.int 0, .ref a8, .ref a9, .ref a10, .ref a11, .ref a12, .int 0, .ref a13, .ref a14, .ref a15, .ref a16, .ref a17, .int 0, .int 0])), (a12, .inl (cL, 8, .inr (.inl (fun _ => 0))))] := hDn
  replace hS := hSn
  clear hPn hDn hSn
  clear hPc hDc hFc hP1 hD1 hk1 hz1 ht9 hvm
  refine W.cs (cells' := 0) (slots' := 0) rfl rfl ?_
  refine lv_aload_n hx hb d_Un_begin_7 rfl (lv_at hl 0 rfl) ?_
  refine va_get (D := (dC, dI)) (ci := 4) (v := .ref a19) (C := "NetUnfolder$Unfolding") (T := T_Un) (N := 4) hx hb ht in_Un hown hK hP 0 rfl rfl 3 (by decide) (ht _ wd_1_187) (fun _ h9 => h9) rfl d_Un_begin_8 ?_
  have hPc := hP.sub (ws' := [(a19, .inr (5, [.ref a2, .int 0, .ref a22, .ref a23, .ref a24]))]) [2] rfl
  have hDc := hD.sub (ws' := [(a19, .inr (5, [.ref a2, .int 0, .ref a22, .ref a23, .ref a24]))]) [2] (by decide) rfl
  have hFc := va_free (wc := [(a19, .inr (5, [.ref a2, .int 0, .ref a22, .ref a23, .ref a24]))]) hD hS hA [2] rfl
  refine va_callv (va_runV (C := "NetUnfolder$Possible") (As := []) (rest := []) ⟨hx, hb, hml, hown, ht⟩ (c_Po_wipe l dC dI cI cL cZ _ a19 a2 a22 a23 a24 ) (cwV 0 ht (good_V wd_2_88 wd_2_89 wd_2_90 wd_1_6 wd_2_91) rfl rfl rfl (by decide +kernel) ⟨Nat.le_of_ble_eq_true rfl, Nat.le_of_ble_eq_true rfl⟩) ⟨fun a U g mk q => by obtain ⟨q0, q1, qP, qK, qD, qN⟩ := q; exact ⟨q0, q1, qP, va_K.moved (u := U) (U := U.calling g mk a) (Vm.Alike.refl U.vm) qK, qD, NwA.same (u := U) rfl qN⟩, (va_recv (q0 := 2) (ci := 5) hK hP rfl rfl), fun U hU hW => ⟨rfl, by rw [hU], by rw [hU]; exact hPc, va_K.moved hW.alike hK, hDc.weaken (fun _ _ _ _ => trivial), NwA.warm hW hN⟩⟩ rfl rfl hl.1 rfl (lv_room (Nat.le_of_ble_eq_true rfl)) d_Un_begin_11 ⟨Nat.le_of_ble_eq_true rfl, Nat.le_of_ble_eq_true rfl⟩) hS (fun q _ h => hFc q h) hFc (fun u t H3 locs ht9 hvm hw4 hB hz1 hk1 hSn => ?_)
  obtain ⟨hP1, hD1⟩ := hB
  rw [ht9] at hP1
  obtain ⟨hPn, hDn⟩ := va_join (wr := [(a4, .inr (4, [.ref a1, .ref a2, .ref a3, .ref a19])), (a1, .inr (1, [.ref a6, .ref a7, .int 0, .int 0])), (a2, .inr (2, [.int 0, .ref a8, .ref a9, .ref a10, .ref a11, .ref a12, .int 0, .ref a13, .ref a14, .ref a15, .ref a16, .ref a17, .int 0, .int 0])), (a12, .inl (cL, 8, .inr (.inl (fun _ => 0))))]) (w1 := [(a19, .inr (5, [.ref a2, .int 0, .ref a22, .ref a23, .ref a24]))]) hP hD [2] [0, 1, 3, 4] rfl rfl (by decide) (by decide) hk1 hFc hP1 hD1
  replace hP : va_P (dC, dI) clA [(a4, .inr (4, [.ref a1, .ref a2, .ref a3, .ref a19])), (a1, .inr (1, [.ref a6, .ref a7, .int 0, .int 0])), (a2, .inr (2, [.int 0, .ref a8, .ref a9, .ref a10, .ref a11, .ref a12, .int 0, .ref a13, .ref a14, .ref a15, .ref a16, .ref a17, .int 0, .int 0])), (a12, .inl (cL, 8, .inr (.inl (fun _ => 0)))), (a19, .inr (5, [.ref a2, .int 0, .ref a22, .ref a23, .ref a24]))] H3 := hPn
  replace hD : va_D A [(a4, .inr (4, [.ref a1, .ref a2, .ref a3, .ref a19])), (a1, .inr (1, [.ref a6, .ref a7, .int 0, .int 0])), (a2, .inr (2, [.int 0, .ref a8, .ref a9, .ref a10, .ref a11, .ref a12, .int 0, .ref a13, .ref a14, .ref a15, .ref a16, .ref a17, .int 0, .int 0])), (a12, .inl (cL, 8, .inr (.inl (fun _ => 0)))), (a19, .inr (5, [.ref a2, .int 0, .ref a22, .ref a23, .ref a24]))] := hDn
  replace hS := hSn
  clear hPn hDn hSn
  clear hPc hDc hFc hP1 hD1 hk1 hz1 ht9 hvm
  refine W.cs (cells' := 0) (slots' := 0) rfl rfl ?_
  refine lv_aload_n hx hb d_Un_begin_14 rfl (lv_at hl 0 rfl) ?_
  refine va_get (D := (dC, dI)) (ci := 4) (v := .ref a2) (C := "NetUnfolder$Unfolding") (T := T_Un) (N := 4) hx hb ht in_Un hown hK hP 0 rfl rfl 1 (by decide) (ht _ wd_1_185) (fun _ h9 => h9) rfl d_Un_begin_15 ?_
  refine lv_aload_n hx hb d_Un_begin_18 rfl (lv_at hl 0 rfl) ?_
  refine va_get (D := (dC, dI)) (ci := 4) (v := .ref a1) (C := "NetUnfolder$Unfolding") (T := T_Un) (N := 4) hx hb ht in_Un hown hK hP 0 rfl rfl 0 (by decide) (ht _ wd_1_184) (fun _ h9 => h9) rfl d_Un_begin_19 ?_
  refine va_get (D := (dC, dI)) (ci := 1) (v := .int 0) (C := "NetUnfolder$Net") (T := T_Ne) (N := 4) hx hb ht in_Ne hown hK hP 1 rfl rfl 3 (by decide) (ht _ wd_1_43) (fun _ h9 => h9) rfl d_Un_begin_22 ?_
  refine lv_iconst (v := (-1)) hx hb d_Un_begin_25 (by decide) ?_
  refine lv_lconst (v := 0) hx hb d_Un_begin_26 (by decide) ?_
  have hPc := hP.sub (ws' := [(a2, .inr (2, [.int 0, .ref a8, .ref a9, .ref a10, .ref a11, .ref a12, .int 0, .ref a13, .ref a14, .ref a15, .ref a16, .ref a17, .int 0, .int 0]))]) [2] rfl
  have hDc := hD.sub (ws' := [(a2, .inr (2, [.int 0, .ref a8, .ref a9, .ref a10, .ref a11, .ref a12, .int 0, .ref a13, .ref a14, .ref a15, .ref a16, .ref a17, .int 0, .int 0]))]) [2] (by decide) rfl
  have hFc := va_free (wc := [(a2, .inr (2, [.int 0, .ref a8, .ref a9, .ref a10, .ref a11, .ref a12, .int 0, .ref a13, .ref a14, .ref a15, .ref a16, .ref a17, .int 0, .int 0]))]) hD hS hA [2] rfl
  refine va_calll (va_runV (C := "NetUnfolder$Prefix") (As := [.int 0, .int (-1), .long 0]) (rest := []) ⟨hx, hb, hml, hown, ht⟩ (c_Pf_addConditions l dC dI cI cL cZ _ a2 a8 a9 a10 a11 a12 a13 a14 a15 a16 a17 ) (cwV 3 ht (good_V wd_2_92 wd_2_93 wd_2_94 wd_1_3 wd_2_95) rfl rfl rfl (by decide +kernel) ⟨Nat.le_of_ble_eq_true rfl, Nat.le_of_ble_eq_true rfl⟩) ⟨fun a U g mk q => by obtain ⟨q0, q1, qP, qK, qD, qN⟩ := q; exact ⟨q0, q1, qP, va_K.moved (u := U) (U := U.calling g mk a) (Vm.Alike.refl U.vm) qK, qD, NwA.same (u := U) rfl qN⟩, (va_recv (q0 := 2) (ci := 2) hK hP rfl rfl), fun U hU hW => ⟨rfl, by rw [hU], by rw [hU]; exact hPc, va_K.moved hW.alike hK, hDc.weaken (fun _ _ _ _ => trivial), NwA.warm hW hN⟩⟩ rfl rfl hl.1 rfl (lv_room (Nat.le_of_ble_eq_true rfl)) d_Un_begin_27 ⟨Nat.le_of_ble_eq_true rfl, Nat.le_of_ble_eq_true rfl⟩) hS (fun q _ h => hFc q h) hFc (fun r9 u t H5 locs ht9 hvm hw6 hB hz1 hk1 hSn => ?_)
  obtain ⟨hP1, hD1⟩ := hB
  rw [ht9] at hP1
  obtain ⟨hPn, hDn⟩ := va_join (wr := [(a4, .inr (4, [.ref a1, .ref a2, .ref a3, .ref a19])), (a1, .inr (1, [.ref a6, .ref a7, .int 0, .int 0])), (a12, .inl (cL, 8, .inr (.inl (fun _ => 0)))), (a19, .inr (5, [.ref a2, .int 0, .ref a22, .ref a23, .ref a24]))]) (w1 := [(a2, .inr (2, [.int 0, .ref a8, .ref a9, .ref a10, .ref a11, .ref a12, .int 0, .ref a13, .ref a14, .ref a15, .ref a16, .ref a17, .int 0, .int 0]))]) hP hD [2] [0, 1, 3, 4] rfl rfl (by decide) (by decide) hk1 hFc hP1 hD1
  replace hP : va_P (dC, dI) clA [(a4, .inr (4, [.ref a1, .ref a2, .ref a3, .ref a19])), (a1, .inr (1, [.ref a6, .ref a7, .int 0, .int 0])), (a12, .inl (cL, 8, .inr (.inl (fun _ => 0)))), (a19, .inr (5, [.ref a2, .int 0, .ref a22, .ref a23, .ref a24])), (a2, .inr (2, [.int 0, .ref a8, .ref a9, .ref a10, .ref a11, .ref a12, .int 0, .ref a13, .ref a14, .ref a15, .ref a16, .ref a17, .int 0, .int 0]))] H5 := hPn
  replace hD : va_D A [(a4, .inr (4, [.ref a1, .ref a2, .ref a3, .ref a19])), (a1, .inr (1, [.ref a6, .ref a7, .int 0, .int 0])), (a12, .inl (cL, 8, .inr (.inl (fun _ => 0)))), (a19, .inr (5, [.ref a2, .int 0, .ref a22, .ref a23, .ref a24])), (a2, .inr (2, [.int 0, .ref a8, .ref a9, .ref a10, .ref a11, .ref a12, .int 0, .ref a13, .ref a14, .ref a15, .ref a16, .ref a17, .int 0, .int 0]))] := hDn
  replace hS := hSn
  clear hPn hDn hSn
  clear hPc hDc hFc hP1 hD1 hk1 hz1 ht9 hvm
  refine W.cs (cells' := 0) (slots' := 0) rfl rfl ?_
  subst hw6
  refine lv_lstore_n (lv' := [(1, .long 0), (0, .ref a4)]) hx hb d_Un_begin_30 rfl hl (by decide) rfl (fun ls hln => ?_)
  replace hl : lv_has ls 3 [(1, .long 0), (0, .ref a4)] := hln
  clear hln
  refine lv_aload_n hx hb d_Un_begin_31 rfl (lv_at hl 1 rfl) ?_
  refine lv_lload_n hx hb d_Un_begin_32 rfl (lv_at hl 0 rfl) ?_
  refine lv_lload_n hx hb d_Un_begin_33 rfl (lv_at hl 0 rfl) ?_
  have hPc := hP.sub (ws' := [(a4, .inr (4, [.ref a1, .ref a2, .ref a3, .ref a19])), (a1, .inr (1, [.ref a6, .ref a7, .int 0, .int 0]))]) [0, 1] rfl
  have hDc := hD.sub (ws' := [(a4, .inr (4, [.ref a1, .ref a2, .ref a3, .ref a19])), (a1, .inr (1, [.ref a6, .ref a7, .int 0, .int 0]))]) [0, 1] (by decide) rfl
  have hFc := va_free (wc := [(a4, .inr (4, [.ref a1, .ref a2, .ref a3, .ref a19])), (a1, .inr (1, [.ref a6, .ref a7, .int 0, .int 0]))]) hD hS hA [0, 1] rfl
  refine va_callv (va_runV (C := "NetUnfolder$Unfolding") (As := [.long 0, .long 0]) (rest := []) ⟨hx, hb, hml, hown, ht⟩ (c_Un_findPossible l dC dI cI cL cZ _ a4 a1 a2 a3 a19 a6 a7 ) (cwV 2 ht (good_V wd_2_104 wd_2_106 ws_Un_findPossible wd_1_5 wd_2_107) rfl rfl rfl (by decide +kernel) ⟨Nat.le_of_ble_eq_true rfl, Nat.le_of_ble_eq_true rfl⟩) ⟨fun a U g mk q => by obtain ⟨q0, q1, qP, qK, qD, qN⟩ := q; exact ⟨q0, q1, qP, va_K.moved (u := U) (U := U.calling g mk a) (Vm.Alike.refl U.vm) qK, qD, NwA.same (u := U) rfl qN⟩, (va_recv (q0 := 0) (ci := 4) hK hP rfl rfl), fun U hU hW => ⟨rfl, by rw [hU], by rw [hU]; exact hPc, va_K.moved hW.alike hK, hDc.weaken (fun _ _ _ _ => trivial), NwA.warm hW hN⟩⟩ rfl rfl hl.1 rfl (lv_room (Nat.le_of_ble_eq_true rfl)) d_Un_begin_34 ⟨Nat.le_of_ble_eq_true rfl, Nat.le_of_ble_eq_true rfl⟩) hS (fun q _ h => hFc q h) hFc (fun u t H7 locs ht9 hvm hw8 hB hz1 hk1 hSn => ?_)
  obtain ⟨hP1, hD1⟩ := hB
  rw [ht9] at hP1
  obtain ⟨hPn, hDn⟩ := va_join (wr := [(a12, .inl (cL, 8, .inr (.inl (fun _ => 0)))), (a19, .inr (5, [.ref a2, .int 0, .ref a22, .ref a23, .ref a24])), (a2, .inr (2, [.int 0, .ref a8, .ref a9, .ref a10, .ref a11, .ref a12, .int 0, .ref a13, .ref a14, .ref a15, .ref a16, .ref a17, .int 0, .int 0]))]) (w1 := [(a4, .inr (4, [.ref a1, .ref a2, .ref a3, .ref a19])), (a1, .inr (1, [.ref a6, .ref a7, .int 0, .int 0]))]) hP hD [0, 1] [2, 3, 4] rfl rfl (by decide) (by decide) hk1 hFc hP1 hD1
  replace hP : va_P (dC, dI) clA [(a12, .inl (cL, 8, .inr (.inl (fun _ => 0)))), (a19, .inr (5, [.ref a2, .int 0, .ref a22, .ref a23, .ref a24])), (a2, .inr (2, [.int 0, .ref a8, .ref a9, .ref a10, .ref a11, .ref a12, .int 0, .ref a13, .ref a14, .ref a15, .ref a16, .ref a17, .int 0, .int 0])), (a4, .inr (4, [.ref a1, .ref a2, .ref a3, .ref a19])), (a1, .inr (1, [.ref a6, .ref a7, .int 0, .int 0]))] H7 := hPn
  replace hD : va_D A [(a12, .inl (cL, 8, .inr (.inl (fun _ => 0)))), (a19, .inr (5, [.ref a2, .int 0, .ref a22, .ref a23, .ref a24])), (a2, .inr (2, [.int 0, .ref a8, .ref a9, .ref a10, .ref a11, .ref a12, .int 0, .ref a13, .ref a14, .ref a15, .ref a16, .ref a17, .int 0, .int 0])), (a4, .inr (4, [.ref a1, .ref a2, .ref a3, .ref a19])), (a1, .inr (1, [.ref a6, .ref a7, .int 0, .int 0]))] := hDn
  replace hS := hSn
  clear hPn hDn hSn
  clear hPc hDc hFc hP1 hD1 hk1 hz1 ht9 hvm
  refine W.cs (cells' := 0) (slots' := 0) rfl rfl ?_
  have hP9 := hP.sub (ws' := [(a12, .inl (cL, 8, .inr (.inl (fun _ => 0)))), (a19, .inr (5, [.ref a2, .int 0, .ref a22, .ref a23, .ref a24])), (a2, .inr (2, [.int 0, .ref a8, .ref a9, .ref a10, .ref a11, .ref a12, .int 0, .ref a13, .ref a14, .ref a15, .ref a16, .ref a17, .int 0, .int 0])), (a4, .inr (4, [.ref a1, .ref a2, .ref a3, .ref a19])), (a1, .inr (1, [.ref a6, .ref a7, .int 0, .int 0]))]) [0, 1, 2, 3, 4] rfl
  have hD9 := hD.sub (ws' := [(a12, .inl (cL, 8, .inr (.inl (fun _ => 0)))), (a19, .inr (5, [.ref a2, .int 0, .ref a22, .ref a23, .ref a24])), (a2, .inr (2, [.int 0, .ref a8, .ref a9, .ref a10, .ref a11, .ref a12, .int 0, .ref a13, .ref a14, .ref a15, .ref a16, .ref a17, .int 0, .int 0])), (a4, .inr (4, [.ref a1, .ref a2, .ref a3, .ref a19])), (a1, .inr (1, [.ref a6, .ref a7, .int 0, .int 0]))]) [0, 1, 2, 3, 4] (by decide) rfl
  exact W.vret hx hb hr (fun t ht9 hW => ⟨⟨(), rfl, trivial, by rw [ht9]; exact hP9, hD9⟩, hS.F ht9⟩) hS.2.2 d_Un_begin_37

set_option maxHeartbeats 4000000 in
set_option maxRecDepth 100000 in
theorem c_Un_run (l : Launch) (dC : Nat → ClassId) (dI : Nat → Nat → Nat) (cI cL cZ : ClassId) (sz : Nat) (a4 : Nat) (a1 : Nat) (a2 : Nat) (a12 : Nat) (a19 : Nat) (a3 : Nat) (a6 : Nat) (a7 : Nat) (a8 : Nat) (a9 : Nat) (a10 : Nat) (a11 : Nat) (a13 : Nat) (a14 : Nat) (a15 : Nat) (a16 : Nat) (a17 : Nat) (a22 : Nat) (a23 : Nat) (a24 : Nat) : Met l y_Un_run (Cond.code y_Un_run prog_8_method_2_code 4 (some .int) :: wsA) { frames := 3, cells := 0, slots := 0, locals := 73 } (va_Pc [.ref a4] (fun U => U.heap.size = sz ∧ va_P (dC, dI) clA [(a4, .inr (4, [.ref a1, .ref a2, .ref a3, .ref a19])), (a1, .inr (1, [.ref a6, .ref a7, .int 0, .int 0])), (a2, .inr (2, [.int 0, .ref a8, .ref a9, .ref a10, .ref a11, .ref a12, .int 0, .ref a13, .ref a14, .ref a15, .ref a16, .ref a17, .int 0, .int 0])), (a12, .inl (cL, 8, .inr (.inl (fun _ => 0)))), (a19, .inr (5, [.ref a2, .int 0, .ref a22, .ref a23, .ref a24]))] U.heap ∧ va_K (dC, dI) clA [(cI, .int), (cL, .long), (cZ, .boolean)] U ∧ va_D (fun _ => True) [(a4, .inr (4, [.ref a1, .ref a2, .ref a3, .ref a19])), (a1, .inr (1, [.ref a6, .ref a7, .int 0, .int 0])), (a2, .inr (2, [.int 0, .ref a8, .ref a9, .ref a10, .ref a11, .ref a12, .int 0, .ref a13, .ref a14, .ref a15, .ref a16, .ref a17, .int 0, .int 0])), (a12, .inl (cL, 8, .inr (.inl (fun _ => 0)))), (a19, .inr (5, [.ref a2, .int 0, .ref a22, .ref a23, .ref a24]))] ∧ NwA U)) (va_Qi (fun r (_ : Unit) => r = 0) (fun _ t => va_P (dC, dI) clA [(a12, .inl (cL, 8, .inr (.inl (fun _ => 0)))), (a2, .inr (2, [.int 0, .ref a8, .ref a9, .ref a10, .ref a11, .ref a12, .int 0, .ref a13, .ref a14, .ref a15, .ref a16, .ref a17, .int 0, .int 1])), (a4, .inr (4, [.ref a1, .ref a2, .ref a3, .ref a19])), (a1, .inr (1, [.ref a6, .ref a7, .int 0, .int 0])), (a19, .inr (5, [.ref a2, .int 0, .ref a22, .ref a23, .ref a24]))] t.heap ∧ va_D (va_A [(a4, .inr (4, [.ref a1, .ref a2, .ref a3, .ref a19])), (a1, .inr (1, [.ref a6, .ref a7, .int 0, .int 0])), (a2, .inr (2, [.int 0, .ref a8, .ref a9, .ref a10, .ref a11, .ref a12, .int 0, .ref a13, .ref a14, .ref a15, .ref a16, .ref a17, .int 0, .int 0])), (a12, .inl (cL, 8, .inr (.inl (fun _ => 0)))), (a19, .inr (5, [.ref a2, .int 0, .ref a22, .ref a23, .ref a24]))] sz) [(a12, .inl (cL, 8, .inr (.inl (fun _ => 0)))), (a2, .inr (2, [.int 0, .ref a8, .ref a9, .ref a10, .ref a11, .ref a12, .int 0, .ref a13, .ref a14, .ref a15, .ref a16, .ref a17, .int 0, .int 1])), (a4, .inr (4, [.ref a1, .ref a2, .ref a3, .ref a19])), (a1, .inr (1, [.ref a6, .ref a7, .int 0, .int 0])), (a19, .inr (5, [.ref a2, .int 0, .ref a22, .ref a23, .ref a24]))]) (va_A [(a4, .inr (4, [.ref a1, .ref a2, .ref a3, .ref a19])), (a1, .inr (1, [.ref a6, .ref a7, .int 0, .int 0])), (a2, .inr (2, [.int 0, .ref a8, .ref a9, .ref a10, .ref a11, .ref a12, .int 0, .ref a13, .ref a14, .ref a15, .ref a16, .ref a17, .int 0, .int 0])), (a12, .inl (cL, 8, .inr (.inl (fun _ => 0)))), (a19, .inr (5, [.ref a2, .int 0, .ref a22, .ref a23, .ref a24]))] sz)) 0 0 (va_A [(a4, .inr (4, [.ref a1, .ref a2, .ref a3, .ref a19])), (a1, .inr (1, [.ref a6, .ref a7, .int 0, .int 0])), (a2, .inr (2, [.int 0, .ref a8, .ref a9, .ref a10, .ref a11, .ref a12, .int 0, .ref a13, .ref a14, .ref a15, .ref a16, .ref a17, .int 0, .int 0])), (a12, .inl (cL, 8, .inr (.inl (fun _ => 0)))), (a19, .inr (5, [.ref a2, .int 0, .ref a22, .ref a23, .ref a24]))] sz) := by
  refine Met.ofW (cc := prog_8_method_2_code) (maxL := 4) (ret := (some .int)) (by decide) rfl ?_
  intro p e s m args below meth c s₁ B hml hv
  obtain ⟨rfl, hsz, hP, hK, hD0, hN⟩ := hv
  have hx := B.exec
  have hb := B.bytes
  have hr := B.returns
  have ht : ∀ w ∈ wsA, w.before _ s = true := fun w h => atoms_spec (ws := (Cond.code y_Un_run prog_8_method_2_code 4 (some .int) :: wsA)) B.pre w (List.mem_cons_of_mem _ h)
  have hown : s.vm.findClass "NetUnfolder$Unfolding" = some m.cls := findClass_of_methodNamed B.named
  have hlocks := B.notSynchronized
  subst hsz
  have hD := hD0.self (sz := s.heap.size)
  generalize hAe : va_A [(a4, .inr (4, [.ref a1, .ref a2, .ref a3, .ref a19])), (a1, .inr (1, [.ref a6, .ref a7, .int 0, .int 0])), (a2, .inr (2, [.int 0, .ref a8, .ref a9, .ref a10, .ref a11, .ref a12, .int 0, .ref a13, .ref a14, .ref a15, .ref a16, .ref a17, .int 0, .int 0])), (a12, .inl (cL, 8, .inr (.inl (fun _ => 0)))), (a19, .inr (5, [.ref a2, .int 0, .ref a22, .ref a23, .ref a24]))] s.heap.size = A at hD ⊢
  have hA : ∀ q : Nat, s.heap.size ≤ q → A q := fun q h => by rw [← hAe]; exact Or.inr h
  have hS : va_S A s.heap s.heap [] := va_S.rf
  have hl := lv_entry ([.ref a4]) (n := 4) (Nat.le_of_ble_eq_true rfl)
  rw [lg_entry_eq]
  generalize (lg_sl ([.ref a4]) ++ List.replicate (4 - (lg_sl ([.ref a4])).length) Slot.unset).toArray = ls at hl ⊢
  replace hl : lv_has ls 4 [(0, .ref a4)] := hl
  refine lv_aload_n hx hb d_Un_run_0 rfl (lv_at hl 0 rfl) ?_
  have hPc := hP.sub (ws' := [(a4, .inr (4, [.ref a1, .ref a2, .ref a3, .ref a19])), (a1, .inr (1, [.ref a6, .ref a7, .int 0, .int 0])), (a2, .inr (2, [.int 0, .ref a8, .ref a9, .ref a10, .ref a11, .ref a12, .int 0, .ref a13, .ref a14, .ref a15, .ref a16, .ref a17, .int 0, .int 0])), (a12, .inl (cL, 8, .inr (.inl (fun _ => 0)))), (a19, .inr (5, [.ref a2, .int 0, .ref a22, .ref a23, .ref a24]))]) [0, 1, 2, 3, 4] rfl
  have hDc := hD.sub (ws' := [(a4, .inr (4, [.ref a1, .ref a2, .ref a3, .ref a19])), (a1, .inr (1, [.ref a6, .ref a7, .int 0, .int 0])), (a2, .inr (2, [.int 0, .ref a8, .ref a9, .ref a10, .ref a11, .ref a12, .int 0, .ref a13, .ref a14, .ref a15, .ref a16, .ref a17, .int 0, .int 0])), (a12, .inl (cL, 8, .inr (.inl (fun _ => 0)))), (a19, .inr (5, [.ref a2, .int 0, .ref a22, .ref a23, .ref a24]))]) [0, 1, 2, 3, 4] (by decide) rfl
  have hFc := va_free (wc := [(a4, .inr (4, [.ref a1, .ref a2, .ref a3, .ref a19])), (a1, .inr (1, [.ref a6, .ref a7, .int 0, .int 0])), (a2, .inr (2, [.int 0, .ref a8, .ref a9, .ref a10, .ref a11, .ref a12, .int 0, .ref a13, .ref a14, .ref a15, .ref a16, .ref a17, .int 0, .int 0])), (a12, .inl (cL, 8, .inr (.inl (fun _ => 0)))), (a19, .inr (5, [.ref a2, .int 0, .ref a22, .ref a23, .ref a24]))]) hD hS hA [0, 1, 2, 3, 4] rfl
  refine va_callv (va_runV (C := "NetUnfolder$Unfolding") (As := []) (rest := []) ⟨hx, hb, hml, hown, ht⟩ (c_Un_begin l dC dI cI cL cZ _ a4 a1 a2 a12 a19 a3 a6 a7 a8 a9 a10 a11 a13 a14 a15 a16 a17 a22 a23 a24 ) (cwV 0 ht (good_V wd_2_83 wd_2_85 ws_Un_begin wd_1_5 wd_2_86) rfl rfl rfl (by decide +kernel) ⟨Nat.le_of_ble_eq_true rfl, Nat.le_of_ble_eq_true rfl⟩) ⟨fun a U g mk q => by obtain ⟨q0, q1, qP, qK, qD, qN⟩ := q; exact ⟨q0, q1, qP, va_K.moved (u := U) (U := U.calling g mk a) (Vm.Alike.refl U.vm) qK, qD, NwA.same (u := U) rfl qN⟩, (va_recv (q0 := 0) (ci := 4) hK hP rfl rfl), fun U hU hW => ⟨rfl, by rw [hU], by rw [hU]; exact hPc, va_K.moved hW.alike hK, hDc.weaken (fun _ _ _ _ => trivial), NwA.warm hW hN⟩⟩ rfl rfl hl.1 rfl (lv_room (Nat.le_of_ble_eq_true rfl)) d_Un_run_1 ⟨Nat.le_of_ble_eq_true rfl, Nat.le_of_ble_eq_true rfl⟩) hS (fun q _ h => hFc q h) hFc (fun u t H1 locs ht9 hvm hw2 hB hz1 hk1 hSn => ?_)
  obtain ⟨hP1, hD1⟩ := hB
  rw [ht9] at hP1
  obtain ⟨hPn, hDn⟩ := va_join (wr := []) (w1 := [(a12, .inl (cL, 8, .inr (.inl (fun _ => 0)))), (a19, .inr (5, [.ref a2, .int 0, .ref a22, .ref a23, .ref a24])), (a2, .inr (2, [.int 0, .ref a8, .ref a9, .ref a10, .ref a11, .ref a12, .int 0, .ref a13, .ref a14, .ref a15, .ref a16, .ref a17, .int 0, .int 0])), (a4, .inr (4, [.ref a1, .ref a2, .ref a3, .ref a19])), (a1, .inr (1, [.ref a6, .ref a7, .int 0, .int 0]))]) hP hD [0, 1, 2, 3, 4] [] rfl rfl (by decide) (by decide) hk1 hFc hP1 hD1
  replace hP : va_P (dC, dI) clA [(a12, .inl (cL, 8, .inr (.inl (fun _ => 0)))), (a19, .inr (5, [.ref a2, .int 0, .ref a22, .ref a23, .ref a24])), (a2, .inr (2, [.int 0, .ref a8, .ref a9, .ref a10, .ref a11, .ref a12, .int 0, .ref a13, .ref a14, .ref a15, .ref a16, .ref a17, .int 0, .int 0])), (a4, .inr (4, [.ref a1, .ref a2, .ref a3, .ref a19])), (a1, .inr (1, [.ref a6, .ref a7, .int 0, .int 0]))] H1 := hPn
  replace hD : va_D A [(a12, .inl (cL, 8, .inr (.inl (fun _ => 0)))), (a19, .inr (5, [.ref a2, .int 0, .ref a22, .ref a23, .ref a24])), (a2, .inr (2, [.int 0, .ref a8, .ref a9, .ref a10, .ref a11, .ref a12, .int 0, .ref a13, .ref a14, .ref a15, .ref a16, .ref a17, .int 0, .int 0])), (a4, .inr (4, [.ref a1, .ref a2, .ref a3, .ref a19])), (a1, .inr (1, [.ref a6, .ref a7, .int 0, .int 0]))] := hDn
  replace hS := hSn
  clear hPn hDn hSn
  clear hPc hDc hFc hP1 hD1 hk1 hz1 ht9 hvm
  refine W.cs (cells' := 0) (slots' := 0) rfl rfl ?_
  refine lv_iconst (v := 0) hx hb d_Un_run_4 (by decide) ?_
  refine lv_istore_n (lv' := [(1, .int 0), (0, .ref a4)]) hx hb d_Un_run_5 rfl hl (by decide) rfl (fun ls hln => ?_)
  replace hl : lv_has ls 4 [(1, .int 0), (0, .ref a4)] := hln
  clear hln
  refine lv_iload_n hx hb d_Un_run_6 rfl (lv_at hl 0 rfl) ?_
  refine lv_bipush (v := 30) hx hb d_Un_run_7 (by decide) ?_
  refine lv_icmp_gt (tgt := 96) hx hb d_Un_run_9 (by decide) (fun h => absurd h (by decide)) (fun _ => ?_)
  refine lv_aload_n hx hb d_Un_run_12 rfl (lv_at hl 1 rfl) ?_
  refine va_get (D := (dC, dI)) (ci := 4) (v := .ref a19) (C := "NetUnfolder$Unfolding") (T := T_Un) (N := 4) hx hb ht in_Un hown hK hP 3 rfl rfl 3 (by decide) (ht _ wd_1_187) (fun _ h9 => h9) rfl d_Un_run_13 ?_
  have hPc := hP.sub (ws' := [(a19, .inr (5, [.ref a2, .int 0, .ref a22, .ref a23, .ref a24]))]) [1] rfl
  have hDc := hD.sub (ws' := [(a19, .inr (5, [.ref a2, .int 0, .ref a22, .ref a23, .ref a24]))]) [1] (by decide) rfl
  have hFc := va_free (wc := [(a19, .inr (5, [.ref a2, .int 0, .ref a22, .ref a23, .ref a24]))]) hD hS hA [1] rfl
  refine va_calli (va_runV (C := "NetUnfolder$Possible") (As := []) (rest := []) ⟨hx, hb, hml, hown, ht⟩ (c_Po_tooMany l dC dI cI cL cZ _ a19 a2 a22 a23 a24 ) (cwV 0 ht (good_V wd_2_112 wd_2_113 wd_2_114 wd_1_6 wd_2_115) rfl rfl rfl (by decide +kernel) ⟨Nat.le_of_ble_eq_true rfl, Nat.le_of_ble_eq_true rfl⟩) ⟨fun a U g mk q => by obtain ⟨q0, q1, qP, qK, qD, qN⟩ := q; exact ⟨q0, q1, qP, va_K.moved (u := U) (U := U.calling g mk a) (Vm.Alike.refl U.vm) qK, qD, NwA.same (u := U) rfl qN⟩, (va_recv (q0 := 1) (ci := 5) hK hP rfl rfl), fun U hU hW => ⟨rfl, by rw [hU], by rw [hU]; exact hPc, va_K.moved hW.alike hK, hDc.weaken (fun _ _ _ _ => trivial), NwA.warm hW hN⟩⟩ rfl rfl hl.1 rfl (lv_room (Nat.le_of_ble_eq_true rfl)) d_Un_run_16 ⟨Nat.le_of_ble_eq_true rfl, Nat.le_of_ble_eq_true rfl⟩) hS (fun q _ h => hFc q h) hFc (fun r9 u t H3 locs ht9 hvm hw4 hB hz1 hk1 hSn => ?_)
  obtain ⟨hP1, hD1⟩ := hB
  rw [ht9] at hP1
  obtain ⟨hPn, hDn⟩ := va_join (wr := [(a12, .inl (cL, 8, .inr (.inl (fun _ => 0)))), (a2, .inr (2, [.int 0, .ref a8, .ref a9, .ref a10, .ref a11, .ref a12, .int 0, .ref a13, .ref a14, .ref a15, .ref a16, .ref a17, .int 0, .int 0])), (a4, .inr (4, [.ref a1, .ref a2, .ref a3, .ref a19])), (a1, .inr (1, [.ref a6, .ref a7, .int 0, .int 0]))]) (w1 := [(a19, .inr (5, [.ref a2, .int 0, .ref a22, .ref a23, .ref a24]))]) hP hD [1] [0, 2, 3, 4] rfl rfl (by decide) (by decide) hk1 hFc hP1 hD1
  replace hP : va_P (dC, dI) clA [(a12, .inl (cL, 8, .inr (.inl (fun _ => 0)))), (a2, .inr (2, [.int 0, .ref a8, .ref a9, .ref a10, .ref a11, .ref a12, .int 0, .ref a13, .ref a14, .ref a15, .ref a16, .ref a17, .int 0, .int 0])), (a4, .inr (4, [.ref a1, .ref a2, .ref a3, .ref a19])), (a1, .inr (1, [.ref a6, .ref a7, .int 0, .int 0])), (a19, .inr (5, [.ref a2, .int 0, .ref a22, .ref a23, .ref a24]))] H3 := hPn
  replace hD : va_D A [(a12, .inl (cL, 8, .inr (.inl (fun _ => 0)))), (a2, .inr (2, [.int 0, .ref a8, .ref a9, .ref a10, .ref a11, .ref a12, .int 0, .ref a13, .ref a14, .ref a15, .ref a16, .ref a17, .int 0, .int 0])), (a4, .inr (4, [.ref a1, .ref a2, .ref a3, .ref a19])), (a1, .inr (1, [.ref a6, .ref a7, .int 0, .int 0])), (a19, .inr (5, [.ref a2, .int 0, .ref a22, .ref a23, .ref a24]))] := hDn
  replace hS := hSn
  clear hPn hDn hSn
  clear hPc hDc hFc hP1 hD1 hk1 hz1 ht9 hvm
  refine W.cs (cells' := 0) (slots' := 0) rfl rfl ?_
  subst hw4
  refine lv_if_eq (tgt := 25) hx hb d_Un_run_19 (by decide) (fun _ => ?_) (fun h => (h (by decide)).elim)
  refine lv_aload_n hx hb d_Un_run_25 rfl (lv_at hl 1 rfl) ?_
  refine va_get (D := (dC, dI)) (ci := 4) (v := .ref a19) (C := "NetUnfolder$Unfolding") (T := T_Un) (N := 4) hx hb ht in_Un hown hK hP 2 rfl rfl 3 (by decide) (ht _ wd_1_187) (fun _ h9 => h9) rfl d_Un_run_26 ?_
  refine va_get (D := (dC, dI)) (ci := 5) (v := .int 0) (C := "NetUnfolder$Possible") (T := T_Po) (N := 5) hx hb ht in_Po hown hK hP 4 rfl rfl 1 (by decide) (ht _ wd_1_166) (fun _ h9 => h9) rfl d_Un_run_29 ?_
  refine lv_if_ne (tgt := 51) hx hb d_Un_run_32 (by decide) (fun h => (h (by decide)).elim) (fun _ => ?_)
  refine lv_aload_n hx hb d_Un_run_35 rfl (lv_at hl 1 rfl) ?_
  refine va_get (D := (dC, dI)) (ci := 4) (v := .ref a2) (C := "NetUnfolder$Unfolding") (T := T_Un) (N := 4) hx hb ht in_Un hown hK hP 2 rfl rfl 1 (by decide) (ht _ wd_1_185) (fun _ h9 => h9) rfl d_Un_run_36 ?_
  refine lv_iconst (v := 1) hx hb d_Un_run_39 (by decide) ?_
  refine va_put (D := (dC, dI)) (ci := 2) (v := .int 1) (ty := .boolean) (C := "NetUnfolder$Prefix") (T := T_Pf) (N := 14) hx hb ht in_Pf ty_Pf ok_Pf nm_Pf hown hK hP hD hS 1 rfl rfl 13 (by decide) (ht _ wd_1_105) (fun _ h9 => h9) rfl (by decide +kernel) rfl rfl (Nat.le_of_ble_eq_true rfl) d_Un_run_40 (fun H5 locs hPn hDn hSn => ?_)
  replace hP : va_P (dC, dI) clA [(a12, .inl (cL, 8, .inr (.inl (fun _ => 0)))), (a2, .inr (2, [.int 0, .ref a8, .ref a9, .ref a10, .ref a11, .ref a12, .int 0, .ref a13, .ref a14, .ref a15, .ref a16, .ref a17, .int 0, .int 1])), (a4, .inr (4, [.ref a1, .ref a2, .ref a3, .ref a19])), (a1, .inr (1, [.ref a6, .ref a7, .int 0, .int 0])), (a19, .inr (5, [.ref a2, .int 0, .ref a22, .ref a23, .ref a24]))] H5 := hPn
  replace hD : va_D A [(a12, .inl (cL, 8, .inr (.inl (fun _ => 0)))), (a2, .inr (2, [.int 0, .ref a8, .ref a9, .ref a10, .ref a11, .ref a12, .int 0, .ref a13, .ref a14, .ref a15, .ref a16, .ref a17, .int 0, .int 1])), (a4, .inr (4, [.ref a1, .ref a2, .ref a3, .ref a19])), (a1, .inr (1, [.ref a6, .ref a7, .int 0, .int 0])), (a19, .inr (5, [.ref a2, .int 0, .ref a22, .ref a23, .ref a24]))] := hDn
  replace hS := hSn
  clear hPn hDn hSn
  refine lv_aload_n hx hb d_Un_run_43 rfl (lv_at hl 1 rfl) ?_
  refine va_get (D := (dC, dI)) (ci := 4) (v := .ref a2) (C := "NetUnfolder$Unfolding") (T := T_Un) (N := 4) hx hb ht in_Un hown hK hP 2 rfl rfl 1 (by decide) (ht _ wd_1_185) (fun _ h9 => h9) rfl d_Un_run_44 ?_
  refine va_get (D := (dC, dI)) (ci := 2) (v := .int 0) (C := "NetUnfolder$Prefix") (T := T_Pf) (N := 14) hx hb ht in_Pf hown hK hP 1 rfl rfl 6 (by decide) (ht _ wd_1_83) (fun _ h9 => h9) rfl d_Un_run_47 ?_
  have hP9 := hP.sub (ws' := [(a12, .inl (cL, 8, .inr (.inl (fun _ => 0)))), (a2, .inr (2, [.int 0, .ref a8, .ref a9, .ref a10, .ref a11, .ref a12, .int 0, .ref a13, .ref a14, .ref a15, .ref a16, .ref a17, .int 0, .int 1])), (a4, .inr (4, [.ref a1, .ref a2, .ref a3, .ref a19])), (a1, .inr (1, [.ref a6, .ref a7, .int 0, .int 0])), (a19, .inr (5, [.ref a2, .int 0, .ref a22, .ref a23, .ref a24]))]) [0, 1, 2, 3, 4] rfl
  have hD9 := hD.sub (ws' := [(a12, .inl (cL, 8, .inr (.inl (fun _ => 0)))), (a2, .inr (2, [.int 0, .ref a8, .ref a9, .ref a10, .ref a11, .ref a12, .int 0, .ref a13, .ref a14, .ref a15, .ref a16, .ref a17, .int 0, .int 1])), (a4, .inr (4, [.ref a1, .ref a2, .ref a3, .ref a19])), (a1, .inr (1, [.ref a6, .ref a7, .int 0, .int 0])), (a19, .inr (5, [.ref a2, .int 0, .ref a22, .ref a23, .ref a24]))]) [0, 1, 2, 3, 4] (by decide) rfl
  exact W.iret (v := 0) hx hb hr (fun t ht9 hW => ⟨⟨0, (), rfl, rfl, by rw [ht9]; exact hP9, hD9⟩, hS.F ht9⟩) hS.2.2 d_Un_run_50
