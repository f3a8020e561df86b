set_option maxHeartbeats 4000000 in
set_option maxRecDepth 100000 in
theorem c_Se_decide (l : Launch) (dC : Nat → ClassId) (dI : Nat → Nat → Nat) (cI cL cZ : ClassId) (sz : Nat) (s0 : Nat) (k0 : Nat) (s1 : Nat) (s2 : Nat) (s3 : Nat) (sy : Int64) (sn : Int64) (slv : Nat) (sts : Nat) (ssa : Nat → Int64) (stl : Nat → Int32) (srs : Nat → Int32) (v : Nat) (hsi : SeI sy sn slv sts ssa) (hstl : AllLt stl 38 38) (hsrs : AllN srs 38 815) (hv : v < 38) (hbn : (sy ||| sn).toBitVec.getLsbD v = false) : Met l y_Se_decide (Cond.code y_Se_decide prog_7_method_5_code 2 none :: wsA) { frames := 1, cells := 0, slots := 0, locals := 25 } (va_Pc [.ref s0, .int (nI v)] (fun U => U.heap.size = sz ∧ va_P (dC, dI) clA [(s0, .inr (8, [.ref k0, .long sy, .long sn, .int (nI slv), .ref s1, .ref s2, .int (nI sts), .ref s3])), (s1, .inl (cL, 39, .inr (.inl ssa))), (s2, .inl (cI, 38, .inl stl)), (s3, .inl (cI, 38, .inl srs))] U.heap ∧ va_K (dC, dI) clA [(cI, .int), (cL, .long), (cZ, .boolean)] U ∧ va_D (fun _ => True) [(s0, .inr (8, [.ref k0, .long sy, .long sn, .int (nI slv), .ref s1, .ref s2, .int (nI sts), .ref s3])), (s1, .inl (cL, 39, .inr (.inl ssa))), (s2, .inl (cI, 38, .inl stl)), (s3, .inl (cI, 38, .inl srs))] ∧ NwA U)) (va_Qv (fun _ : Unit => True) (fun _ t => ∃ (sy1 : Int64), ∃ (sn1 : Int64), ∃ (slv1 : Nat), ∃ (sts1 : Nat), ∃ (ssa1 : Nat → Int64), ∃ (stl1 : Nat → Int32), ∃ (srs1 : Nat → Int32), (SeI sy1 sn1 slv1 sts1 ssa1) ∧ (AllLt stl1 38 38) ∧ (AllN srs1 38 815) ∧ va_P (dC, dI) clA [(s0, .inr (8, [.ref k0, .long sy1, .long sn1, .int (nI slv1), .ref s1, .ref s2, .int (nI sts1), .ref s3])), (s1, .inl (cL, 39, .inr (.inl ssa1))), (s2, .inl (cI, 38, .inl stl1)), (s3, .inl (cI, 38, .inl srs1))] t.heap ∧ va_D (va_A [(s0, .inr (8, [.ref k0, .long sy, .long sn, .int (nI slv), .ref s1, .ref s2, .int (nI sts), .ref s3])), (s1, .inl (cL, 39, .inr (.inl ssa))), (s2, .inl (cI, 38, .inl stl)), (s3, .inl (cI, 38, .inl srs))] sz) [(s0, .inr (8, [.ref k0, .long sy1, .long sn1, .int (nI slv1), .ref s1, .ref s2, .int (nI sts1), .ref s3])), (s1, .inl (cL, 39, .inr (.inl ssa1))), (s2, .inl (cI, 38, .inl stl1)), (s3, .inl (cI, 38, .inl srs1))]) (va_A [(s0, .inr (8, [.ref k0, .long sy, .long sn, .int (nI slv), .ref s1, .ref s2, .int (nI sts), .ref s3])), (s1, .inl (cL, 39, .inr (.inl ssa))), (s2, .inl (cI, 38, .inl stl)), (s3, .inl (cI, 38, .inl srs))] sz)) 0 0 (va_A [(s0, .inr (8, [.ref k0, .long sy, .long sn, .int (nI slv), .ref s1, .ref s2, .int (nI sts), .ref s3])), (s1, .inl (cL, 39, .inr (.inl ssa))), (s2, .inl (cI, 38, .inl stl)), (s3, .inl (cI, 38, .inl srs))] sz) := by
  refine Met.ofW (cc := prog_7_method_5_code) (maxL := 2) (ret := none) (by decide) rfl ?_
  intro p e s m args below meth c s₁ B hml hv
  obtain ⟨rfl, hsz, hP, hK, hD0, hN⟩ := hv
  have hx := B.exec
  have hb := B.bytes
  have hr := B.returns
  have ht : ∀ w ∈ wsA, w.before _ s = true := fun w h => atoms_spec (ws := (Cond.code y_Se_decide prog_7_method_5_code 2 none :: wsA)) B.pre w (List.mem_cons_of_mem _ h)
  have hown : s.vm.findClass "NetUnfolder$Search" = some m.cls := findClass_of_methodNamed B.named
  have hlocks := B.notSynchronized
  subst hsz
  have hD := hD0.self (sz := s.heap.size)
  generalize hAe : va_A [(s0, .inr (8, [.ref k0, .long sy, .long sn, .int (nI slv), .ref s1, .ref s2, .int (nI sts), .ref s3])), (s1, .inl (cL, 39, .inr (.inl ssa))), (s2, .inl (cI, 38, .inl stl)), (s3, .inl (cI, 38, .inl srs))] s.heap.size = A at hD ⊢
  have hA : ∀ q : Nat, s.heap.size ≤ q → A q := fun q h => by rw [← hAe]; exact Or.inr h
  have hS : va_S A s.heap s.heap [] := va_S.rf
  have hl := lv_entry ([.ref s0, .int (nI v)]) (n := 2) (Nat.le_of_ble_eq_true rfl)
  rw [lg_entry_eq]
  generalize (lg_sl ([.ref s0, .int (nI v)]) ++ List.replicate (2 - (lg_sl ([.ref s0, .int (nI v)])).length) Slot.unset).toArray = ls at hl ⊢
  replace hl : lv_has ls 2 [(0, .ref s0), (1, .int (nI v))] := hl
  refine W_Q (fun Q hQ => ?_)
  have hb1 := hsi.bounds
  have hb2 := (SeW.assign hsi.weak hv hbn (asg_y hv)).2
  have hb3 : slv ≤ sts := by obtain ⟨lev, -, -, q⟩ := hsi; exact q
  have hb4 := hsi.up (by omega)
  refine lv_aload_n hx hb d_Se_decide_0 rfl (lv_at hl 0 rfl) ?_
  refine lv_dup hx hb d_Se_decide_1 rfl ?_
  refine va_get (D := (dC, dI)) (ci := 8) (v := .int (nI slv)) (C := "NetUnfolder$Search") (T := T_Se) (N := 8) hx hb ht in_Se hown hK hP 0 rfl rfl 3 (by decide) (ht _ wd_1_235) (fun _ h9 => h9) rfl d_Se_decide_2 ?_
  refine lv_iconst (v := 1) hx hb d_Se_decide_5 (by decide) ?_
  refine lv_iadd hx hb d_Se_decide_6 ?_
  refine ci_i (y := nI (slv + 1)) (cv_add slv 1) ?_
  refine va_put (D := (dC, dI)) (ci := 8) (v := .int (nI (slv + 1))) (ty := .int) (C := "NetUnfolder$Search") (T := T_Se) (N := 8) hx hb ht in_Se ty_Se ok_Se nm_Se hown hK hP hD hS 0 rfl rfl 3 (by decide) (ht _ wd_1_235) (fun _ h9 => h9) rfl (by decide +kernel) rfl rfl (Nat.le_of_ble_eq_true rfl) d_Se_decide_7 (fun H1 locs hPn hDn hSn => ?_)
  replace hP : va_P (dC, dI) clA [(s0, .inr (8, [.ref k0, .long sy, .long sn, .int (nI (slv + 1)), .ref s1, .ref s2, .int (nI sts), .ref s3])), (s1, .inl (cL, 39, .inr (.inl ssa))), (s2, .inl (cI, 38, .inl stl)), (s3, .inl (cI, 38, .inl srs))] H1 := hPn
  replace hD : va_D A [(s0, .inr (8, [.ref k0, .long sy, .long sn, .int (nI (slv + 1)), .ref s1, .ref s2, .int (nI sts), .ref s3])), (s1, .inl (cL, 39, .inr (.inl ssa))), (s2, .inl (cI, 38, .inl stl)), (s3, .inl (cI, 38, .inl srs))] := hDn
  replace hS := hSn
  clear hPn hDn hSn
  refine lv_aload_n hx hb d_Se_decide_10 rfl (lv_at hl 0 rfl) ?_
  refine lv_iload_n hx hb d_Se_decide_11 rfl (lv_at hl 1 rfl) ?_
  refine lv_iconst (v := 0) hx hb d_Se_decide_12 (by decide) ?_
  refine lv_iconst (v := (-1)) hx hb d_Se_decide_13 (by decide) ?_
  have hPc := hP.sub (ws' := [(s0, .inr (8, [.ref k0, .long sy, .long sn, .int (nI (slv + 1)), .ref s1, .ref s2, .int (nI sts), .ref s3])), (s1, .inl (cL, 39, .inr (.inl ssa))), (s2, .inl (cI, 38, .inl stl)), (s3, .inl (cI, 38, .inl srs))]) [0, 1, 2, 3] rfl
  have hDc := hD.sub (ws' := [(s0, .inr (8, [.ref k0, .long sy, .long sn, .int (nI (slv + 1)), .ref s1, .ref s2, .int (nI sts), .ref s3])), (s1, .inl (cL, 39, .inr (.inl ssa))), (s2, .inl (cI, 38, .inl stl)), (s3, .inl (cI, 38, .inl srs))]) [0, 1, 2, 3] (by decide) rfl
  have hFc := va_free (wc := [(s0, .inr (8, [.ref k0, .long sy, .long sn, .int (nI (slv + 1)), .ref s1, .ref s2, .int (nI sts), .ref s3])), (s1, .inl (cL, 39, .inr (.inl ssa))), (s2, .inl (cI, 38, .inl stl)), (s3, .inl (cI, 38, .inl srs))]) hD hS hA [0, 1, 2, 3] rfl
  refine va_callv (va_runV (C := "NetUnfolder$Search") (As := [.int (nI v), .int 0, .int (-1)]) (rest := []) ⟨hx, hb, hml, hown, ht⟩ (c_Se_assign l dC dI cI cL cZ _ s0 k0 s1 s2 s3 sy sn (slv + 1) sts ssa stl srs v 0 (-1) (by first | assumption | omega | trivial | exact AllLt.zero | exact AllN.zero | exact AllM.zero | exact Or.inl rfl | exact Or.inr rfl) (by first | assumption | omega | trivial | exact AllLt.zero | exact AllN.zero | exact AllM.zero | exact Or.inl rfl | exact Or.inr rfl) (by first | assumption | omega | trivial | exact AllLt.zero | exact AllN.zero | exact AllM.zero | exact Or.inl rfl | exact Or.inr rfl) (by first | assumption | omega | trivial | exact AllLt.zero | exact AllN.zero | exact AllM.zero | exact Or.inl rfl | exact Or.inr rfl) (by first | assumption | omega | trivial | exact AllLt.zero | exact AllN.zero | exact AllM.zero | exact Or.inl rfl | exact Or.inr rfl) (by first | assumption | omega | trivial | exact AllLt.zero | exact AllN.zero | exact AllM.zero | exact Or.inl rfl | exact Or.inr rfl) (Or.inl rfl)) (cwV 3 ht (good_V wd_3_162 wd_3_164 ws_Se_assign wd_1_9 wd_3_165) rfl rfl rfl (by decide +kernel) ⟨Nat.le_of_ble_eq_true rfl, Nat.le_of_ble_eq_true rfl⟩) ⟨fun a U g mk q => by obtain ⟨q0, q1, qP, qK, qD, qN⟩ := q; exact ⟨q0, q1, qP, va_K.moved (u := U) (U := U.calling g mk a) (Vm.Alike.refl U.vm) qK, qD, NwA.same (u := U) rfl qN⟩, (va_recv (q0 := 0) (ci := 8) hK hP rfl rfl), fun U hU hW => ⟨rfl, by rw [hU], by rw [hU]; exact hPc, va_K.moved hW.alike hK, hDc.weaken (fun _ _ _ _ => trivial), NwA.warm hW hN⟩⟩ rfl rfl hl.1 rfl (lv_room (Nat.le_of_ble_eq_true rfl)) d_Se_decide_14 ⟨Nat.le_of_ble_eq_true rfl, Nat.le_of_ble_eq_true rfl⟩) hS (fun q _ h => hFc q h) hFc (fun u9 t9 H2 locs ht9 hvm hw3 hB hz1 hk1 hSn => ?_)
  obtain ⟨sy15, sn16, ssa17, stl18, srs19, hf10, hf11, hf12, hP1, hD1⟩ := hB
  rw [ht9] at hP1
  obtain ⟨hPn, hDn⟩ := va_join (wr := []) (w1 := [(s0, .inr (8, [.ref k0, .long sy15, .long sn16, .int (nI (slv + 1)), .ref s1, .ref s2, .int (nI (sts + 1)), .ref s3])), (s1, .inl (cL, 39, .inr (.inl ssa17))), (s2, .inl (cI, 38, .inl stl18)), (s3, .inl (cI, 38, .inl srs19))]) hP hD [0, 1, 2, 3] [] rfl rfl (by decide) (by decide) hk1 hFc hP1 hD1
  replace hP : va_P (dC, dI) clA [(s0, .inr (8, [.ref k0, .long sy15, .long sn16, .int (nI (slv + 1)), .ref s1, .ref s2, .int (nI (sts + 1)), .ref s3])), (s1, .inl (cL, 39, .inr (.inl ssa17))), (s2, .inl (cI, 38, .inl stl18)), (s3, .inl (cI, 38, .inl srs19))] H2 := hPn
  replace hD : va_D A [(s0, .inr (8, [.ref k0, .long sy15, .long sn16, .int (nI (slv + 1)), .ref s1, .ref s2, .int (nI (sts + 1)), .ref s3])), (s1, .inl (cL, 39, .inr (.inl ssa17))), (s2, .inl (cI, 38, .inl stl18)), (s3, .inl (cI, 38, .inl srs19))] := hDn
  replace hS := hSn
  clear hPn hDn hSn
  clear hPc hDc hFc hP1 hD1 hk1 hz1 ht9 hvm
  refine W.cs (cells' := 0) (slots' := 0) rfl rfl ?_
  have hP9 := hP.sub (ws' := [(s0, .inr (8, [.ref k0, .long sy15, .long sn16, .int (nI (slv + 1)), .ref s1, .ref s2, .int (nI (sts + 1)), .ref s3])), (s1, .inl (cL, 39, .inr (.inl ssa17))), (s2, .inl (cI, 38, .inl stl18)), (s3, .inl (cI, 38, .inl srs19))]) [0, 1, 2, 3] rfl
  have hD9 := hD.sub (ws' := [(s0, .inr (8, [.ref k0, .long sy15, .long sn16, .int (nI (slv + 1)), .ref s1, .ref s2, .int (nI (sts + 1)), .ref s3])), (s1, .inl (cL, 39, .inr (.inl ssa17))), (s2, .inl (cI, 38, .inl stl18)), (s3, .inl (cI, 38, .inl srs19))]) [0, 1, 2, 3] (by decide) rfl
  subst hQ
  exact W.vret hx hb hr (fun t9 ht9 hW => ⟨⟨(), rfl, trivial, sy15, sn16, (slv + 1), (sts + 1), ssa17, stl18, srs19, (by first | assumption | omega | trivial | exact AllLt.zero | exact AllN.zero | exact AllM.zero | exact Or.inl rfl | exact Or.inr rfl), (by first | assumption | omega | trivial | exact AllLt.zero | exact AllN.zero | exact AllM.zero | exact Or.inl rfl | exact Or.inr rfl), (by first | assumption | omega | trivial | exact AllLt.zero | exact AllN.zero | exact AllM.zero | exact Or.inl rfl | exact Or.inr rfl), by rw [ht9]; exact hP9, hD9⟩, hS.F ht9⟩) hS.2.2 d_Se_decide_17
