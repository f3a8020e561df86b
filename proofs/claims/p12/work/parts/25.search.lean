set_option maxHeartbeats 4000000 in
set_option maxRecDepth 100000 in
theorem c_Se_begin (l : Launch) (dC : Nat → ClassId) (dI : Nat → Nat → Nat) (cI cL cZ : ClassId) (sz : Nat) (s0 : Nat) (k0 : Nat) (s1 : Nat) (s2 : Nat) (s3 : Nat) (sy : Int64) (sn : Int64) (slv : Nat) (sts : Nat) (ssa : Nat → Int64) : Met l y_Se_begin (Cond.code y_Se_begin prog_7_method_4_code 1 none :: wsA) { frames := 1, cells := 0, slots := 0, locals := 24 } (va_Pc [.ref s0] (fun U => U.heap.size = sz ∧ va_P (dC, dI) clA [(s0, .inr (8, [.ref k0, .long sy, .long sn, .int (nI slv), .ref s1, .ref s2, .int (nI sts), .ref s3])), (s1, .inl (cL, 39, .inr (.inl ssa)))] U.heap ∧ va_K (dC, dI) clA [(cI, .int), (cL, .long), (cZ, .boolean)] U ∧ va_D (fun _ => True) [(s0, .inr (8, [.ref k0, .long sy, .long sn, .int (nI slv), .ref s1, .ref s2, .int (nI sts), .ref s3])), (s1, .inl (cL, 39, .inr (.inl ssa)))] ∧ NwA U)) (va_Qv (fun _ : Unit => True) (fun _ t => ∃ (ssa1 : Nat → Int64), (SeI 0 0 0 0 ssa1) ∧ va_P (dC, dI) clA [(s0, .inr (8, [.ref k0, .long 0, .long 0, .int 0, .ref s1, .ref s2, .int 0, .ref s3])), (s1, .inl (cL, 39, .inr (.inl ssa1)))] t.heap ∧ va_D (va_A [(s0, .inr (8, [.ref k0, .long sy, .long sn, .int (nI slv), .ref s1, .ref s2, .int (nI sts), .ref s3])), (s1, .inl (cL, 39, .inr (.inl ssa)))] sz) [(s0, .inr (8, [.ref k0, .long 0, .long 0, .int 0, .ref s1, .ref s2, .int 0, .ref s3])), (s1, .inl (cL, 39, .inr (.inl ssa1)))]) (va_A [(s0, .inr (8, [.ref k0, .long sy, .long sn, .int (nI slv), .ref s1, .ref s2, .int (nI sts), .ref s3])), (s1, .inl (cL, 39, .inr (.inl ssa)))] sz)) 0 0 (va_A [(s0, .inr (8, [.ref k0, .long sy, .long sn, .int (nI slv), .ref s1, .ref s2, .int (nI sts), .ref s3])), (s1, .inl (cL, 39, .inr (.inl ssa)))] sz) := by
  refine Met.ofW (cc := prog_7_method_4_code) (maxL := 1) (ret := none) (by decide) rfl ?_
  intro p e s m args below meth c s₁ B hml hv
  obtain ⟨rfl, hsz, hP, hK, hD0, hN⟩ := hv
  have hx := B.exec
  have hb := B.bytes
  have hr := B.returns
  have ht : ∀ w ∈ wsA, w.before _ s = true := fun w h => atoms_spec (ws := (Cond.code y_Se_begin prog_7_method_4_code 1 none :: wsA)) B.pre w (List.mem_cons_of_mem _ h)
  have hown : s.vm.findClass "NetUnfolder$Search" = some m.cls := findClass_of_methodNamed B.named
  have hlocks := B.notSynchronized
  subst hsz
  have hD := hD0.self (sz := s.heap.size)
  generalize hAe : va_A [(s0, .inr (8, [.ref k0, .long sy, .long sn, .int (nI slv), .ref s1, .ref s2, .int (nI sts), .ref s3])), (s1, .inl (cL, 39, .inr (.inl ssa)))] s.heap.size = A at hD ⊢
  have hA : ∀ q : Nat, s.heap.size ≤ q → A q := fun q h => by rw [← hAe]; exact Or.inr h
  have hS : va_S A s.heap s.heap [] := va_S.rf
  have hl := lv_entry ([.ref s0]) (n := 1) (Nat.le_of_ble_eq_true rfl)
  rw [lg_entry_eq]
  generalize (lg_sl ([.ref s0]) ++ List.replicate (1 - (lg_sl ([.ref s0])).length) Slot.unset).toArray = ls at hl ⊢
  replace hl : lv_has ls 1 [(0, .ref s0)] := hl
  refine W_Q (fun Q hQ => ?_)
  refine lv_aload_n hx hb d_Se_begin_0 rfl (lv_at hl 0 rfl) ?_
  refine lv_lconst (v := 0) hx hb d_Se_begin_1 (by decide) ?_
  refine va_put (D := (dC, dI)) (ci := 8) (v := .long 0) (ty := .long) (C := "NetUnfolder$Search") (T := T_Se) (N := 8) hx hb ht in_Se ty_Se ok_Se nm_Se hown hK hP hD hS 0 rfl rfl 1 (by decide) (ht _ wd_1_233) (fun _ h9 => h9) rfl (by decide +kernel) rfl rfl (Nat.le_of_ble_eq_true rfl) d_Se_begin_2 (fun H1 locs hPn hDn hSn => ?_)
  replace hP : va_P (dC, dI) clA [(s0, .inr (8, [.ref k0, .long 0, .long sn, .int (nI slv), .ref s1, .ref s2, .int (nI sts), .ref s3])), (s1, .inl (cL, 39, .inr (.inl ssa)))] H1 := hPn
  replace hD : va_D A [(s0, .inr (8, [.ref k0, .long 0, .long sn, .int (nI slv), .ref s1, .ref s2, .int (nI sts), .ref s3])), (s1, .inl (cL, 39, .inr (.inl ssa)))] := hDn
  replace hS := hSn
  clear hPn hDn hSn
  refine lv_aload_n hx hb d_Se_begin_5 rfl (lv_at hl 0 rfl) ?_
  refine lv_lconst (v := 0) hx hb d_Se_begin_6 (by decide) ?_
  refine va_put (D := (dC, dI)) (ci := 8) (v := .long 0) (ty := .long) (C := "NetUnfolder$Search") (T := T_Se) (N := 8) hx hb ht in_Se ty_Se ok_Se nm_Se hown hK hP hD hS 0 rfl rfl 2 (by decide) (ht _ wd_1_234) (fun _ h9 => h9) rfl (by decide +kernel) rfl rfl (Nat.le_of_ble_eq_true rfl) d_Se_begin_7 (fun H2 locs hPn hDn hSn => ?_)
  replace hP : va_P (dC, dI) clA [(s0, .inr (8, [.ref k0, .long 0, .long 0, .int (nI slv), .ref s1, .ref s2, .int (nI sts), .ref s3])), (s1, .inl (cL, 39, .inr (.inl ssa)))] H2 := hPn
  replace hD : va_D A [(s0, .inr (8, [.ref k0, .long 0, .long 0, .int (nI slv), .ref s1, .ref s2, .int (nI sts), .ref s3])), (s1, .inl (cL, 39, .inr (.inl ssa)))] := hDn
  replace hS := hSn
  clear hPn hDn hSn
  refine lv_aload_n hx hb d_Se_begin_10 rfl (lv_at hl 0 rfl) ?_
  refine lv_iconst (v := 0) hx hb d_Se_begin_11 (by decide) ?_
  refine va_put (D := (dC, dI)) (ci := 8) (v := .int 0) (ty := .int) (C := "NetUnfolder$Search") (T := T_Se) (N := 8) hx hb ht in_Se ty_Se ok_Se nm_Se hown hK hP hD hS 0 rfl rfl 3 (by decide) (ht _ wd_1_235) (fun _ h9 => h9) rfl (by decide +kernel) rfl rfl (Nat.le_of_ble_eq_true rfl) d_Se_begin_12 (fun H3 locs hPn hDn hSn => ?_)
  replace hP : va_P (dC, dI) clA [(s0, .inr (8, [.ref k0, .long 0, .long 0, .int 0, .ref s1, .ref s2, .int (nI sts), .ref s3])), (s1, .inl (cL, 39, .inr (.inl ssa)))] H3 := hPn
  replace hD : va_D A [(s0, .inr (8, [.ref k0, .long 0, .long 0, .int 0, .ref s1, .ref s2, .int (nI sts), .ref s3])), (s1, .inl (cL, 39, .inr (.inl ssa)))] := hDn
  replace hS := hSn
  clear hPn hDn hSn
  refine lv_aload_n hx hb d_Se_begin_15 rfl (lv_at hl 0 rfl) ?_
  refine lv_iconst (v := 0) hx hb d_Se_begin_16 (by decide) ?_
  refine va_put (D := (dC, dI)) (ci := 8) (v := .int 0) (ty := .int) (C := "NetUnfolder$Search") (T := T_Se) (N := 8) hx hb ht in_Se ty_Se ok_Se nm_Se hown hK hP hD hS 0 rfl rfl 6 (by decide) (ht _ wd_1_238) (fun _ h9 => h9) rfl (by decide +kernel) rfl rfl (Nat.le_of_ble_eq_true rfl) d_Se_begin_17 (fun H4 locs hPn hDn hSn => ?_)
  replace hP : va_P (dC, dI) clA [(s0, .inr (8, [.ref k0, .long 0, .long 0, .int 0, .ref s1, .ref s2, .int 0, .ref s3])), (s1, .inl (cL, 39, .inr (.inl ssa)))] H4 := hPn
  replace hD : va_D A [(s0, .inr (8, [.ref k0, .long 0, .long 0, .int 0, .ref s1, .ref s2, .int 0, .ref s3])), (s1, .inl (cL, 39, .inr (.inl ssa)))] := hDn
  replace hS := hSn
  clear hPn hDn hSn
  refine lv_aload_n hx hb d_Se_begin_20 rfl (lv_at hl 0 rfl) ?_
  refine va_get (D := (dC, dI)) (ci := 8) (v := .ref s1) (C := "NetUnfolder$Search") (T := T_Se) (N := 8) hx hb ht in_Se hown hK hP 0 rfl rfl 4 (by decide) (ht _ wd_1_236) (fun _ h9 => h9) rfl d_Se_begin_21 ?_
  refine lv_lconst (v := 0) hx hb d_Se_begin_24 (by decide) ?_
  have hPc := hP.sub (ws' := [(s1, .inl (cL, 39, .inr (.inl ssa)))]) [1] rfl
  have hDc := hD.sub (ws' := [(s1, .inl (cL, 39, .inr (.inl ssa)))]) [1] (by decide) rfl
  have hFc := va_free (wc := [(s1, .inl (cL, 39, .inr (.inl ssa)))]) hD hS hA [1] rfl
  refine va_callv (va_runS (As := [.ref s1, .long 0]) (rest := []) ⟨hx, hb, hml, hown, ht⟩ (c_Ar_fill_39 l dC dI cI cL cZ _ s1 ssa 0 ) (va_cwS 2 ht (good_S wd_3_154 wd_2_65 wd_1_16 wd_2_66) rfl rfl rfl (by decide +kernel) ⟨Nat.le_of_ble_eq_true rfl, Nat.le_of_ble_eq_true rfl⟩) ⟨fun a U g mk q => by obtain ⟨q0, q1, qP, qK, qD, qN⟩ := q; exact ⟨q0, q1, qP, va_K.moved (u := U) (U := U.calling g mk a) (Vm.Alike.refl U.vm) qK, qD, NwA.same (u := U) rfl qN⟩, fun U hU hW => ⟨rfl, by rw [hU], by rw [hU]; exact hPc, va_K.moved hW.alike hK, hDc.weaken (fun _ _ _ _ => trivial), NwA.warm hW hN⟩⟩ rfl rfl hl.1 rfl (lv_room (Nat.le_of_ble_eq_true rfl)) d_Se_begin_25 ⟨Nat.le_of_ble_eq_true rfl, Nat.le_of_ble_eq_true rfl⟩) hS (fun q _ h => hFc q h) hFc (fun u9 t9 H5 locs ht9 hvm hw6 hB hz1 hk1 hSn => ?_)
  obtain ⟨f18, hf9, hP1, hD1⟩ := hB
  rw [ht9] at hP1
  obtain ⟨hPn, hDn⟩ := va_join (wr := [(s0, .inr (8, [.ref k0, .long 0, .long 0, .int 0, .ref s1, .ref s2, .int 0, .ref s3]))]) (w1 := [(s1, .inl (cL, 39, .inr (.inl f18)))]) hP hD [1] [0] rfl rfl (by decide) (by decide) hk1 hFc hP1 hD1
  replace hP : va_P (dC, dI) clA [(s0, .inr (8, [.ref k0, .long 0, .long 0, .int 0, .ref s1, .ref s2, .int 0, .ref s3])), (s1, .inl (cL, 39, .inr (.inl f18)))] H5 := hPn
  replace hD : va_D A [(s0, .inr (8, [.ref k0, .long 0, .long 0, .int 0, .ref s1, .ref s2, .int 0, .ref s3])), (s1, .inl (cL, 39, .inr (.inl f18)))] := hDn
  replace hS := hSn
  clear hPn hDn hSn
  clear hPc hDc hFc hP1 hD1 hk1 hz1 ht9 hvm
  refine W.cs (cells' := 0) (slots' := 0) rfl rfl ?_
  have hP9 := hP.sub (ws' := [(s0, .inr (8, [.ref k0, .long 0, .long 0, .int 0, .ref s1, .ref s2, .int 0, .ref s3])), (s1, .inl (cL, 39, .inr (.inl f18)))]) [0, 1] rfl
  have hD9 := hD.sub (ws' := [(s0, .inr (8, [.ref k0, .long 0, .long 0, .int 0, .ref s1, .ref s2, .int 0, .ref s3])), (s1, .inl (cL, 39, .inr (.inl f18)))]) [0, 1] (by decide) rfl
  subst hQ
  exact W.vret hx hb hr (fun t9 ht9 hW => ⟨⟨(), rfl, trivial, f18, (SeI.begin (by assumption)), by rw [ht9]; exact hP9, hD9⟩, hS.F ht9⟩) hS.2.2 d_Se_begin_28

set_option maxHeartbeats 4000000 in
set_option maxRecDepth 100000 in
theorem c_Se_says (l : Launch) (dC : Nat → ClassId) (dI : Nat → Nat → Nat) (cI cL cZ : ClassId) (sz : Nat) (s0 : Nat) (k0 : Nat) (s1 : Nat) (s2 : Nat) (s3 : Nat) (sy : Int64) (sn : Int64) (slv : Nat) (sts : Nat) (k : Nat) (hk : k < 64) : Met l y_Se_says (Cond.code y_Se_says prog_7_method_2_code 2 (some .boolean) :: wsA) { frames := 1, cells := 0, slots := 0, locals := 22 } (va_Pc [.ref s0, .int (nI k)] (fun U => U.heap.size = sz ∧ va_P (dC, dI) clA [(s0, .inr (8, [.ref k0, .long sy, .long sn, .int (nI slv), .ref s1, .ref s2, .int (nI sts), .ref s3]))] U.heap ∧ va_K (dC, dI) clA [(cI, .int), (cL, .long), (cZ, .boolean)] U ∧ va_D (fun _ => True) [(s0, .inr (8, [.ref k0, .long sy, .long sn, .int (nI slv), .ref s1, .ref s2, .int (nI sts), .ref s3]))] ∧ NwA U)) (va_Qi (fun r (_ : Unit) => (r = 0 ∨ r = 1)) (fun _ t => va_P (dC, dI) clA [(s0, .inr (8, [.ref k0, .long sy, .long sn, .int (nI slv), .ref s1, .ref s2, .int (nI sts), .ref s3]))] t.heap ∧ va_D (va_A [(s0, .inr (8, [.ref k0, .long sy, .long sn, .int (nI slv), .ref s1, .ref s2, .int (nI sts), .ref s3]))] sz) [(s0, .inr (8, [.ref k0, .long sy, .long sn, .int (nI slv), .ref s1, .ref s2, .int (nI sts), .ref s3]))]) (va_A [(s0, .inr (8, [.ref k0, .long sy, .long sn, .int (nI slv), .ref s1, .ref s2, .int (nI sts), .ref s3]))] sz)) 0 0 (va_A [(s0, .inr (8, [.ref k0, .long sy, .long sn, .int (nI slv), .ref s1, .ref s2, .int (nI sts), .ref s3]))] sz) := by
  refine Met.ofW (cc := prog_7_method_2_code) (maxL := 2) (ret := (some .boolean)) (by decide) rfl ?_
  intro p e s m args below meth c s₁ B hml hv
  obtain ⟨rfl, hsz, hP, hK, hD0, hN⟩ := hv
  have hx := B.exec
  have hb := B.bytes
  have hr := B.returns
  have ht : ∀ w ∈ wsA, w.before _ s = true := fun w h => atoms_spec (ws := (Cond.code y_Se_says prog_7_method_2_code 2 (some .boolean) :: wsA)) B.pre w (List.mem_cons_of_mem _ h)
  have hown : s.vm.findClass "NetUnfolder$Search" = some m.cls := findClass_of_methodNamed B.named
  have hlocks := B.notSynchronized
  subst hsz
  have hD := hD0.self (sz := s.heap.size)
  generalize hAe : va_A [(s0, .inr (8, [.ref k0, .long sy, .long sn, .int (nI slv), .ref s1, .ref s2, .int (nI sts), .ref s3]))] s.heap.size = A at hD ⊢
  have hA : ∀ q : Nat, s.heap.size ≤ q → A q := fun q h => by rw [← hAe]; exact Or.inr h
  have hS : va_S A s.heap s.heap [] := va_S.rf
  have hl := lv_entry ([.ref s0, .int (nI k)]) (n := 2) (Nat.le_of_ble_eq_true rfl)
  rw [lg_entry_eq]
  generalize (lg_sl ([.ref s0, .int (nI k)]) ++ List.replicate (2 - (lg_sl ([.ref s0, .int (nI k)])).length) Slot.unset).toArray = ls at hl ⊢
  replace hl : lv_has ls 2 [(0, .ref s0), (1, .int (nI k))] := hl
  refine W_Q (fun Q hQ => ?_)
  refine lv_aload_n hx hb d_Se_says_0 rfl (lv_at hl 0 rfl) ?_
  refine va_get (D := (dC, dI)) (ci := 8) (v := .long sy) (C := "NetUnfolder$Search") (T := T_Se) (N := 8) hx hb ht in_Se hown hK hP 0 rfl rfl 1 (by decide) (ht _ wd_1_233) (fun _ h9 => h9) rfl d_Se_says_1 ?_
  refine lv_iload_n hx hb d_Se_says_4 rfl (lv_at hl 1 rfl) ?_
  have hPc : va_P (dC, dI) clA [] _ := pu_P (H := s.heap)
  have hDc : va_D (fun _ => True) [] := pu_D
  have hFc := pu_free hS hA
  refine va_calli (va_runSN (As := [.long sy, .int (nI k)]) (rest := []) ⟨hx, hb, hml, hown, ht⟩ (c_NU_has l dC dI cI cL cZ _ sy k (by first | assumption | omega | trivial | exact AllLt.zero | exact AllN.zero | exact AllM.zero | exact Or.inl rfl | exact Or.inr rfl)) ⟨va_cnB 2 ht (goodA wd_2_102) rfl rfl rfl hN.2.2.2.2.2.2.2.2.2 (ht _ wd_1_1) (by decide +kernel) ⟨Nat.le_of_ble_eq_true rfl, Nat.le_of_ble_eq_true rfl⟩, ht _ wd_2_101, trivial⟩ ⟨fun a U g mk q => by obtain ⟨q0, q1, qP, qK, qD, qN⟩ := q; exact ⟨q0, q1, qP, va_K.moved (u := U) (U := U.calling g mk a) (Vm.Alike.refl U.vm) qK, qD, NwA.same (u := U) rfl qN⟩, fun U hU hW => ⟨rfl, by rw [hU], by rw [hU]; exact hPc, va_K.moved hW.alike hK, hDc.weaken (fun _ _ _ _ => trivial), NwA.warm hW hN⟩⟩ rfl rfl hl.1 rfl (lv_room (Nat.le_of_ble_eq_true rfl)) d_Se_says_5 ⟨Nat.le_of_ble_eq_true rfl, Nat.le_of_ble_eq_true rfl⟩) hS (fun q _ h => hFc q h) hFc (fun r3 u9 t9 H1 locs ht9 hvm hw2 hB hz1 hk1 hSn => ?_)
  replace hP : va_P (dC, dI) clA [(s0, .inr (8, [.ref k0, .long sy, .long sn, .int (nI slv), .ref s1, .ref s2, .int (nI sts), .ref s3]))] H1 := pu_keep hP hk1
  replace hS := hSn
  clear hSn hPc hDc hFc hk1 hz1 ht9 hvm hB
  refine W.cs (cells' := 0) (slots' := 0) rfl rfl ?_
  subst hw2
  have h01 := hasv_01 sy k
  have hP9 := hP.sub (ws' := [(s0, .inr (8, [.ref k0, .long sy, .long sn, .int (nI slv), .ref s1, .ref s2, .int (nI sts), .ref s3]))]) [0] rfl
  have hD9 := hD.sub (ws' := [(s0, .inr (8, [.ref k0, .long sy, .long sn, .int (nI slv), .ref s1, .ref s2, .int (nI sts), .ref s3]))]) [0] (by decide) rfl
  subst hQ
  exact W.zret (v := hasv sy k) hx hb hr (bz_nar (by assumption)) (fun t9 ht9 hW => ⟨⟨hasv sy k, (), rfl, (by first | assumption | omega | trivial | exact AllLt.zero | exact AllN.zero | exact AllM.zero | exact Or.inl rfl | exact Or.inr rfl), by rw [ht9]; exact hP9, hD9⟩, hS.F ht9⟩) hS.2.2 d_Se_says_8

set_option maxHeartbeats 4000000 in
set_option maxRecDepth 100000 in
theorem c_Se_forcedBy (l : Launch) (dC : Nat → ClassId) (dI : Nat → Nat → Nat) (cI cL cZ : ClassId) (sz : Nat) (s0 : Nat) (k0 : Nat) (s1 : Nat) (s2 : Nat) (s3 : Nat) (sy : Int64) (sn : Int64) (slv : Nat) (sts : Nat) (stl : Nat → Int32) (srs : Nat → Int32) (x : Int32) (hts : sts ≤ 38) (hstl : AllLt stl 38 38) : Met l y_Se_forcedBy (Cond.code y_Se_forcedBy prog_7_method_12_code 3 (some .int) :: wsA) { frames := 0, cells := 0, slots := 0, locals := 0 } (va_Pc [.ref s0, .int x] (fun U => U.heap.size = sz ∧ va_P (dC, dI) clA [(s0, .inr (8, [.ref k0, .long sy, .long sn, .int (nI slv), .ref s1, .ref s2, .int (nI sts), .ref s3])), (s2, .inl (cI, 38, .inl stl)), (s3, .inl (cI, 38, .inl srs))] U.heap ∧ va_K (dC, dI) clA [(cI, .int), (cL, .long), (cZ, .boolean)] U ∧ va_D (fun _ => True) [(s0, .inr (8, [.ref k0, .long sy, .long sn, .int (nI slv), .ref s1, .ref s2, .int (nI sts), .ref s3])), (s2, .inl (cI, 38, .inl stl)), (s3, .inl (cI, 38, .inl srs))] ∧ NwA U)) (va_Qi (fun r (_ : Unit) => (r = -1 ∨ ∃ j, j < 38 ∧ r = nI j)) (fun _ t => va_P (dC, dI) clA [(s0, .inr (8, [.ref k0, .long sy, .long sn, .int (nI slv), .ref s1, .ref s2, .int (nI sts), .ref s3])), (s2, .inl (cI, 38, .inl stl)), (s3, .inl (cI, 38, .inl srs))] t.heap ∧ va_D (va_A [(s0, .inr (8, [.ref k0, .long sy, .long sn, .int (nI slv), .ref s1, .ref s2, .int (nI sts), .ref s3])), (s2, .inl (cI, 38, .inl stl)), (s3, .inl (cI, 38, .inl srs))] sz) [(s0, .inr (8, [.ref k0, .long sy, .long sn, .int (nI slv), .ref s1, .ref s2, .int (nI sts), .ref s3])), (s2, .inl (cI, 38, .inl stl)), (s3, .inl (cI, 38, .inl srs))]) (va_A [(s0, .inr (8, [.ref k0, .long sy, .long sn, .int (nI slv), .ref s1, .ref s2, .int (nI sts), .ref s3])), (s2, .inl (cI, 38, .inl stl)), (s3, .inl (cI, 38, .inl srs))] sz)) 0 0 (va_A [(s0, .inr (8, [.ref k0, .long sy, .long sn, .int (nI slv), .ref s1, .ref s2, .int (nI sts), .ref s3])), (s2, .inl (cI, 38, .inl stl)), (s3, .inl (cI, 38, .inl srs))] sz) := by
  refine Met.ofW (cc := prog_7_method_12_code) (maxL := 3) (ret := (some .int)) (by decide) rfl ?_
  intro p e s m args below meth c s₁ B hml hv
  obtain ⟨rfl, hsz, hP, hK, hD0, hN⟩ := hv
  have hx := B.exec
  have hb := B.bytes
  have hr := B.returns
  have ht : ∀ w ∈ wsA, w.before _ s = true := fun w h => atoms_spec (ws := (Cond.code y_Se_forcedBy prog_7_method_12_code 3 (some .int) :: wsA)) B.pre w (List.mem_cons_of_mem _ h)
  have hown : s.vm.findClass "NetUnfolder$Search" = some m.cls := findClass_of_methodNamed B.named
  have hlocks := B.notSynchronized
  subst hsz
  have hD := hD0.self (sz := s.heap.size)
  generalize hAe : va_A [(s0, .inr (8, [.ref k0, .long sy, .long sn, .int (nI slv), .ref s1, .ref s2, .int (nI sts), .ref s3])), (s2, .inl (cI, 38, .inl stl)), (s3, .inl (cI, 38, .inl srs))] s.heap.size = A at hD ⊢
  have hA : ∀ q : Nat, s.heap.size ≤ q → A q := fun q h => by rw [← hAe]; exact Or.inr h
  have hS : va_S A s.heap s.heap [] := va_S.rf
  have hl := lv_entry ([.ref s0, .int x]) (n := 3) (Nat.le_of_ble_eq_true rfl)
  rw [lg_entry_eq]
  generalize (lg_sl ([.ref s0, .int x]) ++ List.replicate (3 - (lg_sl ([.ref s0, .int x])).length) Slot.unset).toArray = ls at hl ⊢
  replace hl : lv_has ls 3 [(0, .ref s0), (1, .int x)] := hl
  refine W_Q (fun Q hQ => ?_)
  refine lv_iconst (v := 0) hx hb d_Se_forcedBy_0 (by decide) ?_
  refine lv_istore_n (lv' := [(2, .int 0), (0, .ref s0), (1, .int x)]) hx hb d_Se_forcedBy_1 rfl hl (by decide) rfl (fun ls hln => ?_)
  replace hl : lv_has ls 3 [(2, .int 0), (0, .ref s0), (1, .int x)] := hln
  clear hln
  have hloop1 : ∀ (n2 : Nat) (i : Nat) (hi : i ≤ sts) (H : Heap) (locs : List Loc) (ls : Array Slot) (hl : lv_has ls 3 [(0, .ref s0), (1, .int x), (2, .int (nI i))]) (hP : va_P (dC, dI) clA [(s0, .inr (8, [.ref k0, .long sy, .long sn, .int (nI slv), .ref s1, .ref s2, .int (nI sts), .ref s3])), (s2, .inl (cI, 38, .inl stl)), (s3, .inl (cI, 38, .inl srs))] H) (hD : va_D A [(s0, .inr (8, [.ref k0, .long sy, .long sn, .int (nI slv), .ref s1, .ref s2, .int (nI sts), .ref s3])), (s2, .inl (cI, 38, .inl stl)), (s3, .inl (cI, 38, .inl srs))]) (hS : va_S A s.heap H locs) (hm2 : sts - i < n2), W p l e (headSpec (Cond.code y_Se_forcedBy prog_7_method_12_code 3 (some .int) :: wsA) { frames := 0, cells := 0, slots := 0, locals := 0 }).room s m ([.ref s0, .int x] : List Value).toArray below meth c H locs 0 0 Q (F0 m 2 ls []) := by
    clear hl hP hD hS
    intro n2
    induction n2 with
    | zero => intro i hi H locs ls hl hP hD hS hm; exact absurd hm (Nat.not_lt_zero _)
    | succ n2 hloop1_ih =>
      intro i hi H locs ls hl hP hD hS hm2
      refine lv_iload_n hx hb d_Se_forcedBy_2 rfl (lv_at hl 2 rfl) ?_
      refine lv_aload_n hx hb d_Se_forcedBy_3 rfl (lv_at hl 0 rfl) ?_
      refine va_get (D := (dC, dI)) (ci := 8) (v := .int (nI sts)) (C := "NetUnfolder$Search") (T := T_Se) (N := 8) hx hb ht in_Se hown hK hP 0 rfl rfl 6 (by decide) (ht _ wd_1_238) (fun _ h9 => h9) rfl d_Se_forcedBy_4 ?_
      refine lv_icmp_ge (tgt := 38) hx hb d_Se_forcedBy_7 (by decide) (fun hb2 => ?_) (fun hb2 => ?_)
      · skip
        replace hb2 := cv_le (a := sts) (b := i) (by omega) (by omega) hb2
        refine lv_iconst (v := (-1)) hx hb d_Se_forcedBy_38 (by decide) ?_
        have hP9 := hP.sub (ws' := [(s0, .inr (8, [.ref k0, .long sy, .long sn, .int (nI slv), .ref s1, .ref s2, .int (nI sts), .ref s3])), (s2, .inl (cI, 38, .inl stl)), (s3, .inl (cI, 38, .inl srs))]) [0, 1, 2] rfl
        have hD9 := hD.sub (ws' := [(s0, .inr (8, [.ref k0, .long sy, .long sn, .int (nI slv), .ref s1, .ref s2, .int (nI sts), .ref s3])), (s2, .inl (cI, 38, .inl stl)), (s3, .inl (cI, 38, .inl srs))]) [0, 1, 2] (by decide) rfl
        subst hQ
        exact W.iret (v := (-1)) hx hb hr (fun t9 ht9 hW => ⟨⟨(-1), (), rfl, (Or.inl rfl), by rw [ht9]; exact hP9, hD9⟩, hS.F ht9⟩) hS.2.2 d_Se_forcedBy_39
      · skip
        replace hb2 := cv_nle (a := sts) (b := i) (by omega) (by omega) hb2
        refine lv_aload_n hx hb d_Se_forcedBy_10 rfl (lv_at hl 0 rfl) ?_
        refine va_get (D := (dC, dI)) (ci := 8) (v := .ref s3) (C := "NetUnfolder$Search") (T := T_Se) (N := 8) hx hb ht in_Se hown hK hP 0 rfl rfl 7 (by decide) (ht _ wd_1_239) (fun _ h9 => h9) rfl d_Se_forcedBy_11 ?_
        refine lv_aload_n hx hb d_Se_forcedBy_14 rfl (lv_at hl 0 rfl) ?_
        refine va_get (D := (dC, dI)) (ci := 8) (v := .ref s2) (C := "NetUnfolder$Search") (T := T_Se) (N := 8) hx hb ht in_Se hown hK hP 0 rfl rfl 5 (by decide) (ht _ wd_1_237) (fun _ h9 => h9) rfl d_Se_forcedBy_15 ?_
        refine lv_iload_n hx hb d_Se_forcedBy_18 rfl (lv_at hl 2 rfl) ?_
        refine na_iald (k := i) hx hb hK hP 1 0 rfl rfl (by omega) (by decide) d_Se_forcedBy_19 ?_
        obtain ⟨q3, hq4, eq5⟩ := hstl (i) (by omega)
        refine ci_i (y := nI q3) eq5 ?_
        refine na_iald (k := q3) hx hb hK hP 2 0 rfl rfl (by omega) (by decide) d_Se_forcedBy_20 ?_
        refine lv_iload_n hx hb d_Se_forcedBy_21 rfl (lv_at hl 1 rfl) ?_
        refine lv_icmp_ne (tgt := 32) hx hb d_Se_forcedBy_22 (by decide) (fun hb6 => ?_) (fun hb6 => ?_)
        · skip
          refine lv_iinc (k := 2) (v := nI (i + 1)) (lv' := [(2, .int (nI (i + 1))), (0, .ref s0), (1, .int x)]) hx hb d_Se_forcedBy_32 hl rfl (nI_1 _) (by decide) rfl (fun ls hln => ?_)
          replace hl : lv_has ls 3 [(2, .int (nI (i + 1))), (0, .ref s0), (1, .int x)] := hln
          clear hln
          refine lv_goto (tgt := 2) hx hb d_Se_forcedBy_35 (by decide) ?_
          exact hloop1_ih (i + 1) (by first | assumption | omega | trivial | exact AllLt.zero | exact AllN.zero | exact AllM.zero | exact Or.inl rfl | exact Or.inr rfl) _ _ ls (lv_sub hl [1, 2, 0] rfl) (hP.sub [0, 1, 2] rfl) (hD.sub [0, 1, 2] (by decide) rfl) hS (by omega)
        · skip
          refine lv_aload_n hx hb d_Se_forcedBy_25 rfl (lv_at hl 0 rfl) ?_
          refine va_get (D := (dC, dI)) (ci := 8) (v := .ref s2) (C := "NetUnfolder$Search") (T := T_Se) (N := 8) hx hb ht in_Se hown hK hP 0 rfl rfl 5 (by decide) (ht _ wd_1_237) (fun _ h9 => h9) rfl d_Se_forcedBy_26 ?_
          refine lv_iload_n hx hb d_Se_forcedBy_29 rfl (lv_at hl 2 rfl) ?_
          refine na_iald (k := i) hx hb hK hP 1 0 rfl rfl (by omega) (by decide) d_Se_forcedBy_30 ?_
          obtain ⟨q7, hq8, eq9⟩ := hstl (i) (by omega)
          refine ci_i (y := nI q7) eq9 ?_
          have hP9 := hP.sub (ws' := [(s0, .inr (8, [.ref k0, .long sy, .long sn, .int (nI slv), .ref s1, .ref s2, .int (nI sts), .ref s3])), (s2, .inl (cI, 38, .inl stl)), (s3, .inl (cI, 38, .inl srs))]) [0, 1, 2] rfl
          have hD9 := hD.sub (ws' := [(s0, .inr (8, [.ref k0, .long sy, .long sn, .int (nI slv), .ref s1, .ref s2, .int (nI sts), .ref s3])), (s2, .inl (cI, 38, .inl stl)), (s3, .inl (cI, 38, .inl srs))]) [0, 1, 2] (by decide) rfl
          subst hQ
          exact W.iret (v := nI q7) hx hb hr (fun t9 ht9 hW => ⟨⟨nI q7, (), rfl, (Or.inr ⟨_, by assumption, rfl⟩), by rw [ht9]; exact hP9, hD9⟩, hS.F ht9⟩) hS.2.2 d_Se_forcedBy_31
  exact hloop1 ((sts - 0) + 1) 0 (by first | assumption | omega | trivial | exact AllLt.zero | exact AllN.zero | exact AllM.zero | exact Or.inl rfl | exact Or.inr rfl) _ _ ls (lv_sub hl [1, 2, 0] rfl) hP hD hS (Nat.lt_succ_self _)

set_option maxHeartbeats 4000000 in
set_option maxRecDepth 100000 in
theorem c_Se_levelBelow (l : Launch) (dC : Nat → ClassId) (dI : Nat → Nat → Nat) (cI cL cZ : ClassId) (sz : Nat) (s0 : Nat) (k0 : Nat) (s1 : Nat) (s2 : Nat) (s3 : Nat) (sy : Int64) (sn : Int64) (slv : Nat) (sts : Nat) (ssa : Nat → Int64) (x : Int64) (hl1 : 1 ≤ slv) (hl2 : slv ≤ 38) : Met l y_Se_levelBelow (Cond.code y_Se_levelBelow prog_7_method_9_code 4 (some .int) :: wsA) { frames := 0, cells := 0, slots := 0, locals := 0 } (va_Pc [.ref s0, .long x] (fun U => U.heap.size = sz ∧ va_P (dC, dI) clA [(s0, .inr (8, [.ref k0, .long sy, .long sn, .int (nI slv), .ref s1, .ref s2, .int (nI sts), .ref s3])), (s1, .inl (cL, 39, .inr (.inl ssa)))] U.heap ∧ va_K (dC, dI) clA [(cI, .int), (cL, .long), (cZ, .boolean)] U ∧ va_D (fun _ => True) [(s0, .inr (8, [.ref k0, .long sy, .long sn, .int (nI slv), .ref s1, .ref s2, .int (nI sts), .ref s3])), (s1, .inl (cL, 39, .inr (.inl ssa)))] ∧ NwA U)) (va_Qi (fun r (_ : Unit) => ∃ (k : Nat), (k < slv) ∧ r = nI k) (fun _ t => va_P (dC, dI) clA [(s0, .inr (8, [.ref k0, .long sy, .long sn, .int (nI slv), .ref s1, .ref s2, .int (nI sts), .ref s3])), (s1, .inl (cL, 39, .inr (.inl ssa)))] t.heap ∧ va_D (va_A [(s0, .inr (8, [.ref k0, .long sy, .long sn, .int (nI slv), .ref s1, .ref s2, .int (nI sts), .ref s3])), (s1, .inl (cL, 39, .inr (.inl ssa)))] sz) [(s0, .inr (8, [.ref k0, .long sy, .long sn, .int (nI slv), .ref s1, .ref s2, .int (nI sts), .ref s3])), (s1, .inl (cL, 39, .inr (.inl ssa)))]) (va_A [(s0, .inr (8, [.ref k0, .long sy, .long sn, .int (nI slv), .ref s1, .ref s2, .int (nI sts), .ref s3])), (s1, .inl (cL, 39, .inr (.inl ssa)))] sz)) 0 0 (va_A [(s0, .inr (8, [.ref k0, .long sy, .long sn, .int (nI slv), .ref s1, .ref s2, .int (nI sts), .ref s3])), (s1, .inl (cL, 39, .inr (.inl ssa)))] sz) := by
  refine Met.ofW (cc := prog_7_method_9_code) (maxL := 4) (ret := (some .int)) (by decide) rfl ?_
  intro p e s m args below meth c s₁ B hml hv
  obtain ⟨rfl, hsz, hP, hK, hD0, hN⟩ := hv
  have hx := B.exec
  have hb := B.bytes
  have hr := B.returns
  have ht : ∀ w ∈ wsA, w.before _ s = true := fun w h => atoms_spec (ws := (Cond.code y_Se_levelBelow prog_7_method_9_code 4 (some .int) :: wsA)) B.pre w (List.mem_cons_of_mem _ h)
  have hown : s.vm.findClass "NetUnfolder$Search" = some m.cls := findClass_of_methodNamed B.named
  have hlocks := B.notSynchronized
  subst hsz
  have hD := hD0.self (sz := s.heap.size)
  generalize hAe : va_A [(s0, .inr (8, [.ref k0, .long sy, .long sn, .int (nI slv), .ref s1, .ref s2, .int (nI sts), .ref s3])), (s1, .inl (cL, 39, .inr (.inl ssa)))] s.heap.size = A at hD ⊢
  have hA : ∀ q : Nat, s.heap.size ≤ q → A q := fun q h => by rw [← hAe]; exact Or.inr h
  have hS : va_S A s.heap s.heap [] := va_S.rf
  have hl := lv_entry ([.ref s0, .long x]) (n := 4) (Nat.le_of_ble_eq_true rfl)
  rw [lg_entry_eq]
  generalize (lg_sl ([.ref s0, .long x]) ++ List.replicate (4 - (lg_sl ([.ref s0, .long x])).length) Slot.unset).toArray = ls at hl ⊢
  replace hl : lv_has ls 4 [(0, .ref s0), (1, .long x)] := hl
  refine W_Q (fun Q hQ => ?_)
  refine lv_aload_n hx hb d_Se_levelBelow_0 rfl (lv_at hl 0 rfl) ?_
  refine va_get (D := (dC, dI)) (ci := 8) (v := .int (nI slv)) (C := "NetUnfolder$Search") (T := T_Se) (N := 8) hx hb ht in_Se hown hK hP 0 rfl rfl 3 (by decide) (ht _ wd_1_235) (fun _ h9 => h9) rfl d_Se_levelBelow_1 ?_
  refine lv_iconst (v := 1) hx hb d_Se_levelBelow_4 (by decide) ?_
  refine lv_isub hx hb d_Se_levelBelow_5 ?_
  refine ci_i (y := nI (slv - 1)) (cv_sub (a := slv) (b := 1) (by omega)) ?_
  refine lv_istore_n (lv' := [(3, .int (nI (slv - 1))), (0, .ref s0), (1, .long x)]) hx hb d_Se_levelBelow_6 rfl hl (by decide) rfl (fun ls hln => ?_)
  replace hl : lv_has ls 4 [(3, .int (nI (slv - 1))), (0, .ref s0), (1, .long x)] := hln
  clear hln
  have hloop1 : ∀ (n7 : Nat) (i : Nat) (hi : i < slv) (H : Heap) (locs : List Loc) (ls : Array Slot) (hl : lv_has ls 4 [(0, .ref s0), (1, .long x), (3, .int (nI i))]) (hP : va_P (dC, dI) clA [(s0, .inr (8, [.ref k0, .long sy, .long sn, .int (nI slv), .ref s1, .ref s2, .int (nI sts), .ref s3])), (s1, .inl (cL, 39, .inr (.inl ssa)))] H) (hD : va_D A [(s0, .inr (8, [.ref k0, .long sy, .long sn, .int (nI slv), .ref s1, .ref s2, .int (nI sts), .ref s3])), (s1, .inl (cL, 39, .inr (.inl ssa)))]) (hS : va_S A s.heap H locs) (hm7 : i < n7), W p l e (headSpec (Cond.code y_Se_levelBelow prog_7_method_9_code 4 (some .int) :: wsA) { frames := 0, cells := 0, slots := 0, locals := 0 }).room s m ([.ref s0, .long x] : List Value).toArray below meth c H locs 0 0 Q (F0 m 7 ls []) := by
    clear hl hP hD hS
    intro n7
    induction n7 with
    | zero => intro i hi H locs ls hl hP hD hS hm; exact absurd hm (Nat.not_lt_zero _)
    | succ n7 hloop1_ih =>
      intro i hi H locs ls hl hP hD hS hm7
      refine lv_iload_n hx hb d_Se_levelBelow_7 rfl (lv_at hl 2 rfl) ?_
      refine lv_if_le (tgt := 32) hx hb d_Se_levelBelow_8 (by decide) (fun hb2 => ?_) (fun hb2 => ?_)
      · skip
        replace hb2 := cv_le (a := i) (b := 0) (by omega) (by omega) hb2
        refine lv_iconst (v := 0) hx hb d_Se_levelBelow_32 (by decide) ?_
        have hP9 := hP.sub (ws' := [(s0, .inr (8, [.ref k0, .long sy, .long sn, .int (nI slv), .ref s1, .ref s2, .int (nI sts), .ref s3])), (s1, .inl (cL, 39, .inr (.inl ssa)))]) [0, 1] rfl
        have hD9 := hD.sub (ws' := [(s0, .inr (8, [.ref k0, .long sy, .long sn, .int (nI slv), .ref s1, .ref s2, .int (nI sts), .ref s3])), (s1, .inl (cL, 39, .inr (.inl ssa)))]) [0, 1] (by decide) rfl
        subst hQ
        exact W.iret (v := 0) hx hb hr (fun t9 ht9 hW => ⟨⟨0, (), rfl, ⟨0, (by first | assumption | omega | trivial | exact AllLt.zero | exact AllN.zero | exact AllM.zero | exact Or.inl rfl | exact Or.inr rfl), rfl⟩, by rw [ht9]; exact hP9, hD9⟩, hS.F ht9⟩) hS.2.2 d_Se_levelBelow_33
      · skip
        replace hb2 := cv_nle (a := i) (b := 0) (by omega) (by omega) hb2
        refine lv_lload_n hx hb d_Se_levelBelow_11 rfl (lv_at hl 1 rfl) ?_
        refine lv_aload_n hx hb d_Se_levelBelow_12 rfl (lv_at hl 0 rfl) ?_
        refine va_get (D := (dC, dI)) (ci := 8) (v := .ref s1) (C := "NetUnfolder$Search") (T := T_Se) (N := 8) hx hb ht in_Se hown hK hP 0 rfl rfl 4 (by decide) (ht _ wd_1_236) (fun _ h9 => h9) rfl d_Se_levelBelow_13 ?_
        refine lv_iload_n hx hb d_Se_levelBelow_16 rfl (lv_at hl 2 rfl) ?_
        refine na_lald (k := i) hx hb hK hP 1 1 rfl rfl (by omega) (by decide) d_Se_levelBelow_17 ?_
        refine lv_land hx hb d_Se_levelBelow_18 ?_
        refine lv_lconst (v := 0) hx hb d_Se_levelBelow_19 (by decide) ?_
        refine W.lcmp hx hb d_Se_levelBelow_20 ?_
        refine lv_if_eq (tgt := 26) hx hb d_Se_levelBelow_21 (by decide) (fun hb3 => ?_) (fun hb3 => ?_)
        · skip
          refine lv_iinc (k := 2) (v := nI (i - 1)) (lv' := [(3, .int (nI (i - 1))), (0, .ref s0), (1, .long x)]) hx hb d_Se_levelBelow_26 hl rfl (cv_dec (by omega)) (by decide) rfl (fun ls hln => ?_)
          replace hl : lv_has ls 4 [(3, .int (nI (i - 1))), (0, .ref s0), (1, .long x)] := hln
          clear hln
          refine lv_goto (tgt := 7) hx hb d_Se_levelBelow_29 (by decide) ?_
          exact hloop1_ih (i - 1) (by first | assumption | omega | trivial | exact AllLt.zero | exact AllN.zero | exact AllM.zero | exact Or.inl rfl | exact Or.inr rfl) _ _ ls (lv_sub hl [1, 2, 0] rfl) (hP.sub [0, 1] rfl) (hD.sub [0, 1] (by decide) rfl) hS (by omega)
        · skip
          refine lv_iload_n hx hb d_Se_levelBelow_24 rfl (lv_at hl 2 rfl) ?_
          have hP9 := hP.sub (ws' := [(s0, .inr (8, [.ref k0, .long sy, .long sn, .int (nI slv), .ref s1, .ref s2, .int (nI sts), .ref s3])), (s1, .inl (cL, 39, .inr (.inl ssa)))]) [0, 1] rfl
          have hD9 := hD.sub (ws' := [(s0, .inr (8, [.ref k0, .long sy, .long sn, .int (nI slv), .ref s1, .ref s2, .int (nI sts), .ref s3])), (s1, .inl (cL, 39, .inr (.inl ssa)))]) [0, 1] (by decide) rfl
          subst hQ
          exact W.iret (v := nI i) hx hb hr (fun t9 ht9 hW => ⟨⟨nI i, (), rfl, ⟨i, (by first | assumption | omega | trivial | exact AllLt.zero | exact AllN.zero | exact AllM.zero | exact Or.inl rfl | exact Or.inr rfl), rfl⟩, by rw [ht9]; exact hP9, hD9⟩, hS.F ht9⟩) hS.2.2 d_Se_levelBelow_25
  exact hloop1 ((slv - 1) + 1) (slv - 1) (by first | assumption | omega | trivial | exact AllLt.zero | exact AllN.zero | exact AllM.zero | exact Or.inl rfl | exact Or.inr rfl) _ _ ls (lv_sub hl [1, 2, 0] rfl) hP hD hS (Nat.lt_succ_self _)

set_option maxHeartbeats 4000000 in
set_option maxRecDepth 100000 in
theorem c_Se_assign (l : Launch) (dC : Nat → ClassId) (dI : Nat → Nat → Nat) (cI cL cZ : ClassId) (sz : Nat) (s0 : Nat) (k0 : Nat) (s1 : Nat) (s2 : Nat) (s3 : Nat) (sy : Int64) (sn : Int64) (slv : Nat) (sts : Nat) (ssa : Nat → Int64) (stl : Nat → Int32) (srs : Nat → Int32) (v : Nat) (y : Int32) (z : Int32) (hsw : SeW sy sn slv sts ssa) (hsl : slv ≤ 38) (hv : v < 38) (hbn : (sy ||| sn).toBitVec.getLsbD v = false) (hstl : AllLt stl 38 38) (hsrs : AllN srs 38 815) (hz : z = -1 ∨ ∃ k, k < 815 ∧ z = nI k) : Met l y_Se_assign (Cond.code y_Se_assign prog_7_method_6_code 6 none :: wsA) { frames := 0, cells := 0, slots := 0, locals := 0 } (va_Pc [.ref s0, .int (nI v), .int y, .int z] (fun U => U.heap.size = sz ∧ va_P (dC, dI) clA [(s0, .inr (8, [.ref k0, .long sy, .long sn, .int (nI slv), .ref s1, .ref s2, .int (nI sts), .ref s3])), (s1, .inl (cL, 39, .inr (.inl ssa))), (s2, .inl (cI, 38, .inl stl)), (s3, .inl (cI, 38, .inl srs))] U.heap ∧ va_K (dC, dI) clA [(cI, .int), (cL, .long), (cZ, .boolean)] U ∧ va_D (fun _ => True) [(s0, .inr (8, [.ref k0, .long sy, .long sn, .int (nI slv), .ref s1, .ref s2, .int (nI sts), .ref s3])), (s1, .inl (cL, 39, .inr (.inl ssa))), (s2, .inl (cI, 38, .inl stl)), (s3, .inl (cI, 38, .inl srs))] ∧ NwA U)) (va_Qv (fun _ : Unit => True) (fun _ t => ∃ (sy1 : Int64), ∃ (sn1 : Int64), ∃ (ssa1 : Nat → Int64), ∃ (stl1 : Nat → Int32), ∃ (srs1 : Nat → Int32), (SeI sy1 sn1 slv (sts + 1) ssa1) ∧ (AllLt stl1 38 38) ∧ (AllN srs1 38 815) ∧ va_P (dC, dI) clA [(s0, .inr (8, [.ref k0, .long sy1, .long sn1, .int (nI slv), .ref s1, .ref s2, .int (nI (sts + 1)), .ref s3])), (s1, .inl (cL, 39, .inr (.inl ssa1))), (s2, .inl (cI, 38, .inl stl1)), (s3, .inl (cI, 38, .inl srs1))] t.heap ∧ va_D (va_A [(s0, .inr (8, [.ref k0, .long sy, .long sn, .int (nI slv), .ref s1, .ref s2, .int (nI sts), .ref s3])), (s1, .inl (cL, 39, .inr (.inl ssa))), (s2, .inl (cI, 38, .inl stl)), (s3, .inl (cI, 38, .inl srs))] sz) [(s0, .inr (8, [.ref k0, .long sy1, .long sn1, .int (nI slv), .ref s1, .ref s2, .int (nI (sts + 1)), .ref s3])), (s1, .inl (cL, 39, .inr (.inl ssa1))), (s2, .inl (cI, 38, .inl stl1)), (s3, .inl (cI, 38, .inl srs1))]) (va_A [(s0, .inr (8, [.ref k0, .long sy, .long sn, .int (nI slv), .ref s1, .ref s2, .int (nI sts), .ref s3])), (s1, .inl (cL, 39, .inr (.inl ssa))), (s2, .inl (cI, 38, .inl stl)), (s3, .inl (cI, 38, .inl srs))] sz)) 0 0 (va_A [(s0, .inr (8, [.ref k0, .long sy, .long sn, .int (nI slv), .ref s1, .ref s2, .int (nI sts), .ref s3])), (s1, .inl (cL, 39, .inr (.inl ssa))), (s2, .inl (cI, 38, .inl stl)), (s3, .inl (cI, 38, .inl srs))] sz) := by
  refine Met.ofW (cc := prog_7_method_6_code) (maxL := 6) (ret := none) (by decide) rfl ?_
  intro p e s m args below meth c s₁ B hml hv
  obtain ⟨rfl, hsz, hP, hK, hD0, hN⟩ := hv
  have hx := B.exec
  have hb := B.bytes
  have hr := B.returns
  have ht : ∀ w ∈ wsA, w.before _ s = true := fun w h => atoms_spec (ws := (Cond.code y_Se_assign prog_7_method_6_code 6 none :: wsA)) B.pre w (List.mem_cons_of_mem _ h)
  have hown : s.vm.findClass "NetUnfolder$Search" = some m.cls := findClass_of_methodNamed B.named
  have hlocks := B.notSynchronized
  subst hsz
  have hD := hD0.self (sz := s.heap.size)
  generalize hAe : va_A [(s0, .inr (8, [.ref k0, .long sy, .long sn, .int (nI slv), .ref s1, .ref s2, .int (nI sts), .ref s3])), (s1, .inl (cL, 39, .inr (.inl ssa))), (s2, .inl (cI, 38, .inl stl)), (s3, .inl (cI, 38, .inl srs))] s.heap.size = A at hD ⊢
  have hA : ∀ q : Nat, s.heap.size ≤ q → A q := fun q h => by rw [← hAe]; exact Or.inr h
  have hS : va_S A s.heap s.heap [] := va_S.rf
  have hl := lv_entry ([.ref s0, .int (nI v), .int y, .int z]) (n := 6) (Nat.le_of_ble_eq_true rfl)
  rw [lg_entry_eq]
  generalize (lg_sl ([.ref s0, .int (nI v), .int y, .int z]) ++ List.replicate (6 - (lg_sl ([.ref s0, .int (nI v), .int y, .int z])).length) Slot.unset).toArray = ls at hl ⊢
  replace hl : lv_has ls 6 [(0, .ref s0), (1, .int (nI v)), (2, .int y), (3, .int z)] := hl
  refine W_Q (fun Q hQ => ?_)
  have hts38 : sts < 38 := (SeW.assign hsw hv hbn (asg_y hv)).2
  refine lv_lconst (v := 1) hx hb d_Se_assign_0 (by decide) ?_
  refine lv_iload_n hx hb d_Se_assign_1 rfl (lv_at hl 1 rfl) ?_
  refine lv_lshl (v := 1 <<< (Int32.toInt64 (nI v) &&& 63)) hx hb d_Se_assign_2 rfl ?_
  refine lv_lstore (lv' := [(4, .long (1 <<< (Int32.toInt64 (nI v) &&& 63))), (0, .ref s0), (1, .int (nI v)), (2, .int y), (3, .int z)]) hx hb d_Se_assign_3 hl (by decide) rfl (fun ls hln => ?_)
  replace hl : lv_has ls 6 [(4, .long (1 <<< (Int32.toInt64 (nI v) &&& 63))), (0, .ref s0), (1, .int (nI v)), (2, .int y), (3, .int z)] := hln
  clear hln
  refine lv_iload_n hx hb d_Se_assign_5 rfl (lv_at hl 3 rfl) ?_
  refine lv_if_eq (tgt := 23) hx hb d_Se_assign_6 (by decide) (fun hb1 => ?_) (fun hb1 => ?_)
  · skip
    refine lv_aload_n hx hb d_Se_assign_23 rfl (lv_at hl 1 rfl) ?_
    refine lv_dup hx hb d_Se_assign_24 rfl ?_
    refine va_get (D := (dC, dI)) (ci := 8) (v := .long sn) (C := "NetUnfolder$Search") (T := T_Se) (N := 8) hx hb ht in_Se hown hK hP 0 rfl rfl 2 (by decide) (ht _ wd_1_234) (fun _ h9 => h9) rfl d_Se_assign_25 ?_
    refine lv_lload hx hb d_Se_assign_28 (lv_at hl 0 rfl) ?_
    refine lv_lor hx hb d_Se_assign_30 ?_
    refine va_put (D := (dC, dI)) (ci := 8) (v := .long (sn ||| (1 <<< (Int32.toInt64 (nI v) &&& 63)))) (ty := .long) (C := "NetUnfolder$Search") (T := T_Se) (N := 8) hx hb ht in_Se ty_Se ok_Se nm_Se hown hK hP hD hS 0 rfl rfl 2 (by decide) (ht _ wd_1_234) (fun _ h9 => h9) rfl (by decide +kernel) rfl rfl (Nat.le_of_ble_eq_true rfl) d_Se_assign_31 (fun H2 locs hPn hDn hSn => ?_)
    replace hP : va_P (dC, dI) clA [(s0, .inr (8, [.ref k0, .long sy, .long (sn ||| (1 <<< (Int32.toInt64 (nI v) &&& 63))), .int (nI slv), .ref s1, .ref s2, .int (nI sts), .ref s3])), (s1, .inl (cL, 39, .inr (.inl ssa))), (s2, .inl (cI, 38, .inl stl)), (s3, .inl (cI, 38, .inl srs))] H2 := hPn
    replace hD : va_D A [(s0, .inr (8, [.ref k0, .long sy, .long (sn ||| (1 <<< (Int32.toInt64 (nI v) &&& 63))), .int (nI slv), .ref s1, .ref s2, .int (nI sts), .ref s3])), (s1, .inl (cL, 39, .inr (.inl ssa))), (s2, .inl (cI, 38, .inl stl)), (s3, .inl (cI, 38, .inl srs))] := hDn
    replace hS := hSn
    clear hPn hDn hSn
    refine lv_aload_n hx hb d_Se_assign_34 rfl (lv_at hl 1 rfl) ?_
    refine va_get (D := (dC, dI)) (ci := 8) (v := .ref s1) (C := "NetUnfolder$Search") (T := T_Se) (N := 8) hx hb ht in_Se hown hK hP 0 rfl rfl 4 (by decide) (ht _ wd_1_236) (fun _ h9 => h9) rfl d_Se_assign_35 ?_
    refine lv_aload_n hx hb d_Se_assign_38 rfl (lv_at hl 1 rfl) ?_
    refine va_get (D := (dC, dI)) (ci := 8) (v := .int (nI slv)) (C := "NetUnfolder$Search") (T := T_Se) (N := 8) hx hb ht in_Se hown hK hP 0 rfl rfl 3 (by decide) (ht _ wd_1_235) (fun _ h9 => h9) rfl d_Se_assign_39 ?_
    refine lv_dup2_11 hx hb d_Se_assign_42 rfl rfl ?_
    refine na_lald (k := slv) hx hb hK hP 1 1 rfl rfl (by omega) (by decide) d_Se_assign_43 ?_
    refine lv_lload hx hb d_Se_assign_44 (lv_at hl 0 rfl) ?_
    refine lv_lor hx hb d_Se_assign_46 ?_
    refine na_last (k := slv) hx hb hK hP hD hS 1 1 rfl rfl (by omega) (by decide) d_Se_assign_47 (fun H3 locs hPn hDn hSn => ?_)
    replace hP : va_P (dC, dI) clA [(s0, .inr (8, [.ref k0, .long sy, .long (sn ||| (1 <<< (Int32.toInt64 (nI v) &&& 63))), .int (nI slv), .ref s1, .ref s2, .int (nI sts), .ref s3])), (s1, .inl (cL, 39, .inr (.inl (vp_updL ssa slv ((ssa slv) ||| (1 <<< (Int32.toInt64 (nI v) &&& 63))))))), (s2, .inl (cI, 38, .inl stl)), (s3, .inl (cI, 38, .inl srs))] H3 := hPn
    replace hD : va_D A [(s0, .inr (8, [.ref k0, .long sy, .long (sn ||| (1 <<< (Int32.toInt64 (nI v) &&& 63))), .int (nI slv), .ref s1, .ref s2, .int (nI sts), .ref s3])), (s1, .inl (cL, 39, .inr (.inl (vp_updL ssa slv ((ssa slv) ||| (1 <<< (Int32.toInt64 (nI v) &&& 63))))))), (s2, .inl (cI, 38, .inl stl)), (s3, .inl (cI, 38, .inl srs))] := hDn
    replace hS := hSn
    clear hPn hDn hSn
    refine lv_aload_n hx hb d_Se_assign_48 rfl (lv_at hl 1 rfl) ?_
    refine va_get (D := (dC, dI)) (ci := 8) (v := .ref s2) (C := "NetUnfolder$Search") (T := T_Se) (N := 8) hx hb ht in_Se hown hK hP 0 rfl rfl 5 (by decide) (ht _ wd_1_237) (fun _ h9 => h9) rfl d_Se_assign_49 ?_
    refine lv_aload_n hx hb d_Se_assign_52 rfl (lv_at hl 1 rfl) ?_
    refine va_get (D := (dC, dI)) (ci := 8) (v := .int (nI sts)) (C := "NetUnfolder$Search") (T := T_Se) (N := 8) hx hb ht in_Se hown hK hP 0 rfl rfl 6 (by decide) (ht _ wd_1_238) (fun _ h9 => h9) rfl d_Se_assign_53 ?_
    refine lv_iload_n hx hb d_Se_assign_56 rfl (lv_at hl 2 rfl) ?_
    refine na_iast (k := sts) hx hb hK hP hD hS 2 0 rfl rfl (by omega) (by decide) d_Se_assign_57 (fun H4 locs hPn hDn hSn => ?_)
    replace hP : va_P (dC, dI) clA [(s0, .inr (8, [.ref k0, .long sy, .long (sn ||| (1 <<< (Int32.toInt64 (nI v) &&& 63))), .int (nI slv), .ref s1, .ref s2, .int (nI sts), .ref s3])), (s1, .inl (cL, 39, .inr (.inl (vp_updL ssa slv ((ssa slv) ||| (1 <<< (Int32.toInt64 (nI v) &&& 63))))))), (s2, .inl (cI, 38, .inl (upd stl sts (nI v)))), (s3, .inl (cI, 38, .inl srs))] H4 := hPn
    replace hD : va_D A [(s0, .inr (8, [.ref k0, .long sy, .long (sn ||| (1 <<< (Int32.toInt64 (nI v) &&& 63))), .int (nI slv), .ref s1, .ref s2, .int (nI sts), .ref s3])), (s1, .inl (cL, 39, .inr (.inl (vp_updL ssa slv ((ssa slv) ||| (1 <<< (Int32.toInt64 (nI v) &&& 63))))))), (s2, .inl (cI, 38, .inl (upd stl sts (nI v)))), (s3, .inl (cI, 38, .inl srs))] := hDn
    replace hS := hSn
    clear hPn hDn hSn
    refine lv_aload_n hx hb d_Se_assign_58 rfl (lv_at hl 1 rfl) ?_
    refine lv_dup hx hb d_Se_assign_59 rfl ?_
    refine va_get (D := (dC, dI)) (ci := 8) (v := .int (nI sts)) (C := "NetUnfolder$Search") (T := T_Se) (N := 8) hx hb ht in_Se hown hK hP 0 rfl rfl 6 (by decide) (ht _ wd_1_238) (fun _ h9 => h9) rfl d_Se_assign_60 ?_
    refine lv_iconst (v := 1) hx hb d_Se_assign_63 (by decide) ?_
    refine lv_iadd hx hb d_Se_assign_64 ?_
    refine ci_i (y := nI (sts + 1)) (cv_add sts 1) ?_
    refine va_put (D := (dC, dI)) (ci := 8) (v := .int (nI (sts + 1))) (ty := .int) (C := "NetUnfolder$Search") (T := T_Se) (N := 8) hx hb ht in_Se ty_Se ok_Se nm_Se hown hK hP hD hS 0 rfl rfl 6 (by decide) (ht _ wd_1_238) (fun _ h9 => h9) rfl (by decide +kernel) rfl rfl (Nat.le_of_ble_eq_true rfl) d_Se_assign_65 (fun H5 locs hPn hDn hSn => ?_)
    replace hP : va_P (dC, dI) clA [(s0, .inr (8, [.ref k0, .long sy, .long (sn ||| (1 <<< (Int32.toInt64 (nI v) &&& 63))), .int (nI slv), .ref s1, .ref s2, .int (nI (sts + 1)), .ref s3])), (s1, .inl (cL, 39, .inr (.inl (vp_updL ssa slv ((ssa slv) ||| (1 <<< (Int32.toInt64 (nI v) &&& 63))))))), (s2, .inl (cI, 38, .inl (upd stl sts (nI v)))), (s3, .inl (cI, 38, .inl srs))] H5 := hPn
    replace hD : va_D A [(s0, .inr (8, [.ref k0, .long sy, .long (sn ||| (1 <<< (Int32.toInt64 (nI v) &&& 63))), .int (nI slv), .ref s1, .ref s2, .int (nI (sts + 1)), .ref s3])), (s1, .inl (cL, 39, .inr (.inl (vp_updL ssa slv ((ssa slv) ||| (1 <<< (Int32.toInt64 (nI v) &&& 63))))))), (s2, .inl (cI, 38, .inl (upd stl sts (nI v)))), (s3, .inl (cI, 38, .inl srs))] := hDn
    replace hS := hSn
    clear hPn hDn hSn
    refine lv_aload_n hx hb d_Se_assign_68 rfl (lv_at hl 1 rfl) ?_
    refine va_get (D := (dC, dI)) (ci := 8) (v := .ref s3) (C := "NetUnfolder$Search") (T := T_Se) (N := 8) hx hb ht in_Se hown hK hP 0 rfl rfl 7 (by decide) (ht _ wd_1_239) (fun _ h9 => h9) rfl d_Se_assign_69 ?_
    refine lv_iload_n hx hb d_Se_assign_72 rfl (lv_at hl 2 rfl) ?_
    refine lv_iload_n hx hb d_Se_assign_73 rfl (lv_at hl 4 rfl) ?_
    refine na_iast (k := v) hx hb hK hP hD hS 3 0 rfl rfl (by omega) (by decide) d_Se_assign_74 (fun H6 locs hPn hDn hSn => ?_)
    replace hP : va_P (dC, dI) clA [(s0, .inr (8, [.ref k0, .long sy, .long (sn ||| (1 <<< (Int32.toInt64 (nI v) &&& 63))), .int (nI slv), .ref s1, .ref s2, .int (nI (sts + 1)), .ref s3])), (s1, .inl (cL, 39, .inr (.inl (vp_updL ssa slv ((ssa slv) ||| (1 <<< (Int32.toInt64 (nI v) &&& 63))))))), (s2, .inl (cI, 38, .inl (upd stl sts (nI v)))), (s3, .inl (cI, 38, .inl (upd srs v z)))] H6 := hPn
    replace hD : va_D A [(s0, .inr (8, [.ref k0, .long sy, .long (sn ||| (1 <<< (Int32.toInt64 (nI v) &&& 63))), .int (nI slv), .ref s1, .ref s2, .int (nI (sts + 1)), .ref s3])), (s1, .inl (cL, 39, .inr (.inl (vp_updL ssa slv ((ssa slv) ||| (1 <<< (Int32.toInt64 (nI v) &&& 63))))))), (s2, .inl (cI, 38, .inl (upd stl sts (nI v)))), (s3, .inl (cI, 38, .inl (upd srs v z)))] := hDn
    replace hS := hSn
    clear hPn hDn hSn
    have hP9 := hP.sub (ws' := [(s0, .inr (8, [.ref k0, .long sy, .long (sn ||| (1 <<< (Int32.toInt64 (nI v) &&& 63))), .int (nI slv), .ref s1, .ref s2, .int (nI (sts + 1)), .ref s3])), (s1, .inl (cL, 39, .inr (.inl (vp_updL ssa slv ((ssa slv) ||| (1 <<< (Int32.toInt64 (nI v) &&& 63))))))), (s2, .inl (cI, 38, .inl (upd stl sts (nI v)))), (s3, .inl (cI, 38, .inl (upd srs v z)))]) [0, 1, 2, 3] rfl
    have hD9 := hD.sub (ws' := [(s0, .inr (8, [.ref k0, .long sy, .long (sn ||| (1 <<< (Int32.toInt64 (nI v) &&& 63))), .int (nI slv), .ref s1, .ref s2, .int (nI (sts + 1)), .ref s3])), (s1, .inl (cL, 39, .inr (.inl (vp_updL ssa slv ((ssa slv) ||| (1 <<< (Int32.toInt64 (nI v) &&& 63))))))), (s2, .inl (cI, 38, .inl (upd stl sts (nI v)))), (s3, .inl (cI, 38, .inl (upd srs v z)))]) [0, 1, 2, 3] (by decide) rfl
    subst hQ
    exact W.vret hx hb hr (fun t9 ht9 hW => ⟨⟨(), rfl, trivial, sy, (sn ||| (1 <<< (Int32.toInt64 (nI v) &&& 63))), (vp_updL ssa slv ((ssa slv) ||| (1 <<< (Int32.toInt64 (nI v) &&& 63)))), (upd stl sts (nI v)), (upd srs v z), (SeW.assign hsw hv hbn (asg_n hv)).1, (AllLt.put hstl hv), (AllN.put hsrs hz), by rw [ht9]; exact hP9, hD9⟩, hS.F ht9⟩) hS.2.2 d_Se_assign_75
  · skip
    refine lv_aload_n hx hb d_Se_assign_9 rfl (lv_at hl 1 rfl) ?_
    refine lv_dup hx hb d_Se_assign_10 rfl ?_
    refine va_get (D := (dC, dI)) (ci := 8) (v := .long sy) (C := "NetUnfolder$Search") (T := T_Se) (N := 8) hx hb ht in_Se hown hK hP 0 rfl rfl 1 (by decide) (ht _ wd_1_233) (fun _ h9 => h9) rfl d_Se_assign_11 ?_
    refine lv_lload hx hb d_Se_assign_14 (lv_at hl 0 rfl) ?_
    refine lv_lor hx hb d_Se_assign_16 ?_
    refine va_put (D := (dC, dI)) (ci := 8) (v := .long (sy ||| (1 <<< (Int32.toInt64 (nI v) &&& 63)))) (ty := .long) (C := "NetUnfolder$Search") (T := T_Se) (N := 8) hx hb ht in_Se ty_Se ok_Se nm_Se hown hK hP hD hS 0 rfl rfl 1 (by decide) (ht _ wd_1_233) (fun _ h9 => h9) rfl (by decide +kernel) rfl rfl (Nat.le_of_ble_eq_true rfl) d_Se_assign_17 (fun H7 locs hPn hDn hSn => ?_)
    replace hP : va_P (dC, dI) clA [(s0, .inr (8, [.ref k0, .long (sy ||| (1 <<< (Int32.toInt64 (nI v) &&& 63))), .long sn, .int (nI slv), .ref s1, .ref s2, .int (nI sts), .ref s3])), (s1, .inl (cL, 39, .inr (.inl ssa))), (s2, .inl (cI, 38, .inl stl)), (s3, .inl (cI, 38, .inl srs))] H7 := hPn
    replace hD : va_D A [(s0, .inr (8, [.ref k0, .long (sy ||| (1 <<< (Int32.toInt64 (nI v) &&& 63))), .long sn, .int (nI slv), .ref s1, .ref s2, .int (nI sts), .ref s3])), (s1, .inl (cL, 39, .inr (.inl ssa))), (s2, .inl (cI, 38, .inl stl)), (s3, .inl (cI, 38, .inl srs))] := hDn
    replace hS := hSn
    clear hPn hDn hSn
    refine lv_goto (tgt := 34) hx hb d_Se_assign_20 (by decide) ?_
    refine lv_aload_n hx hb d_Se_assign_34 rfl (lv_at hl 1 rfl) ?_
    refine va_get (D := (dC, dI)) (ci := 8) (v := .ref s1) (C := "NetUnfolder$Search") (T := T_Se) (N := 8) hx hb ht in_Se hown hK hP 0 rfl rfl 4 (by decide) (ht _ wd_1_236) (fun _ h9 => h9) rfl d_Se_assign_35 ?_
    refine lv_aload_n hx hb d_Se_assign_38 rfl (lv_at hl 1 rfl) ?_
    refine va_get (D := (dC, dI)) (ci := 8) (v := .int (nI slv)) (C := "NetUnfolder$Search") (T := T_Se) (N := 8) hx hb ht in_Se hown hK hP 0 rfl rfl 3 (by decide) (ht _ wd_1_235) (fun _ h9 => h9) rfl d_Se_assign_39 ?_
    refine lv_dup2_11 hx hb d_Se_assign_42 rfl rfl ?_
    refine na_lald (k := slv) hx hb hK hP 1 1 rfl rfl (by omega) (by decide) d_Se_assign_43 ?_
    refine lv_lload hx hb d_Se_assign_44 (lv_at hl 0 rfl) ?_
    refine lv_lor hx hb d_Se_assign_46 ?_
    refine na_last (k := slv) hx hb hK hP hD hS 1 1 rfl rfl (by omega) (by decide) d_Se_assign_47 (fun H8 locs hPn hDn hSn => ?_)
    replace hP : va_P (dC, dI) clA [(s0, .inr (8, [.ref k0, .long (sy ||| (1 <<< (Int32.toInt64 (nI v) &&& 63))), .long sn, .int (nI slv), .ref s1, .ref s2, .int (nI sts), .ref s3])), (s1, .inl (cL, 39, .inr (.inl (vp_updL ssa slv ((ssa slv) ||| (1 <<< (Int32.toInt64 (nI v) &&& 63))))))), (s2, .inl (cI, 38, .inl stl)), (s3, .inl (cI, 38, .inl srs))] H8 := hPn
    replace hD : va_D A [(s0, .inr (8, [.ref k0, .long (sy ||| (1 <<< (Int32.toInt64 (nI v) &&& 63))), .long sn, .int (nI slv), .ref s1, .ref s2, .int (nI sts), .ref s3])), (s1, .inl (cL, 39, .inr (.inl (vp_updL ssa slv ((ssa slv) ||| (1 <<< (Int32.toInt64 (nI v) &&& 63))))))), (s2, .inl (cI, 38, .inl stl)), (s3, .inl (cI, 38, .inl srs))] := hDn
    replace hS := hSn
    clear hPn hDn hSn
    refine lv_aload_n hx hb d_Se_assign_48 rfl (lv_at hl 1 rfl) ?_
    refine va_get (D := (dC, dI)) (ci := 8) (v := .ref s2) (C := "NetUnfolder$Search") (T := T_Se) (N := 8) hx hb ht in_Se hown hK hP 0 rfl rfl 5 (by decide) (ht _ wd_1_237) (fun _ h9 => h9) rfl d_Se_assign_49 ?_
    refine lv_aload_n hx hb d_Se_assign_52 rfl (lv_at hl 1 rfl) ?_
    refine va_get (D := (dC, dI)) (ci := 8) (v := .int (nI sts)) (C := "NetUnfolder$Search") (T := T_Se) (N := 8) hx hb ht in_Se hown hK hP 0 rfl rfl 6 (by decide) (ht _ wd_1_238) (fun _ h9 => h9) rfl d_Se_assign_53 ?_
    refine lv_iload_n hx hb d_Se_assign_56 rfl (lv_at hl 2 rfl) ?_
    refine na_iast (k := sts) hx hb hK hP hD hS 2 0 rfl rfl (by omega) (by decide) d_Se_assign_57 (fun H9 locs hPn hDn hSn => ?_)
    replace hP : va_P (dC, dI) clA [(s0, .inr (8, [.ref k0, .long (sy ||| (1 <<< (Int32.toInt64 (nI v) &&& 63))), .long sn, .int (nI slv), .ref s1, .ref s2, .int (nI sts), .ref s3])), (s1, .inl (cL, 39, .inr (.inl (vp_updL ssa slv ((ssa slv) ||| (1 <<< (Int32.toInt64 (nI v) &&& 63))))))), (s2, .inl (cI, 38, .inl (upd stl sts (nI v)))), (s3, .inl (cI, 38, .inl srs))] H9 := hPn
    replace hD : va_D A [(s0, .inr (8, [.ref k0, .long (sy ||| (1 <<< (Int32.toInt64 (nI v) &&& 63))), .long sn, .int (nI slv), .ref s1, .ref s2, .int (nI sts), .ref s3])), (s1, .inl (cL, 39, .inr (.inl (vp_updL ssa slv ((ssa slv) ||| (1 <<< (Int32.toInt64 (nI v) &&& 63))))))), (s2, .inl (cI, 38, .inl (upd stl sts (nI v)))), (s3, .inl (cI, 38, .inl srs))] := hDn
    replace hS := hSn
    clear hPn hDn hSn
    refine lv_aload_n hx hb d_Se_assign_58 rfl (lv_at hl 1 rfl) ?_
    refine lv_dup hx hb d_Se_assign_59 rfl ?_
    refine va_get (D := (dC, dI)) (ci := 8) (v := .int (nI sts)) (C := "NetUnfolder$Search") (T := T_Se) (N := 8) hx hb ht in_Se hown hK hP 0 rfl rfl 6 (by decide) (ht _ wd_1_238) (fun _ h9 => h9) rfl d_Se_assign_60 ?_
    refine lv_iconst (v := 1) hx hb d_Se_assign_63 (by decide) ?_
    refine lv_iadd hx hb d_Se_assign_64 ?_
    refine ci_i (y := nI (sts + 1)) (cv_add sts 1) ?_
    refine va_put (D := (dC, dI)) (ci := 8) (v := .int (nI (sts + 1))) (ty := .int) (C := "NetUnfolder$Search") (T := T_Se) (N := 8) hx hb ht in_Se ty_Se ok_Se nm_Se hown hK hP hD hS 0 rfl rfl 6 (by decide) (ht _ wd_1_238) (fun _ h9 => h9) rfl (by decide +kernel) rfl rfl (Nat.le_of_ble_eq_true rfl) d_Se_assign_65 (fun H10 locs hPn hDn hSn => ?_)
    replace hP : va_P (dC, dI) clA [(s0, .inr (8, [.ref k0, .long (sy ||| (1 <<< (Int32.toInt64 (nI v) &&& 63))), .long sn, .int (nI slv), .ref s1, .ref s2, .int (nI (sts + 1)), .ref s3])), (s1, .inl (cL, 39, .inr (.inl (vp_updL ssa slv ((ssa slv) ||| (1 <<< (Int32.toInt64 (nI v) &&& 63))))))), (s2, .inl (cI, 38, .inl (upd stl sts (nI v)))), (s3, .inl (cI, 38, .inl srs))] H10 := hPn
    replace hD : va_D A [(s0, .inr (8, [.ref k0, .long (sy ||| (1 <<< (Int32.toInt64 (nI v) &&& 63))), .long sn, .int (nI slv), .ref s1, .ref s2, .int (nI (sts + 1)), .ref s3])), (s1, .inl (cL, 39, .inr (.inl (vp_updL ssa slv ((ssa slv) ||| (1 <<< (Int32.toInt64 (nI v) &&& 63))))))), (s2, .inl (cI, 38, .inl (upd stl sts (nI v)))), (s3, .inl (cI, 38, .inl srs))] := hDn
    replace hS := hSn
    clear hPn hDn hSn
    refine lv_aload_n hx hb d_Se_assign_68 rfl (lv_at hl 1 rfl) ?_
    refine va_get (D := (dC, dI)) (ci := 8) (v := .ref s3) (C := "NetUnfolder$Search") (T := T_Se) (N := 8) hx hb ht in_Se hown hK hP 0 rfl rfl 7 (by decide) (ht _ wd_1_239) (fun _ h9 => h9) rfl d_Se_assign_69 ?_
    refine lv_iload_n hx hb d_Se_assign_72 rfl (lv_at hl 2 rfl) ?_
    refine lv_iload_n hx hb d_Se_assign_73 rfl (lv_at hl 4 rfl) ?_
    refine na_iast (k := v) hx hb hK hP hD hS 3 0 rfl rfl (by omega) (by decide) d_Se_assign_74 (fun H11 locs hPn hDn hSn => ?_)
    replace hP : va_P (dC, dI) clA [(s0, .inr (8, [.ref k0, .long (sy ||| (1 <<< (Int32.toInt64 (nI v) &&& 63))), .long sn, .int (nI slv), .ref s1, .ref s2, .int (nI (sts + 1)), .ref s3])), (s1, .inl (cL, 39, .inr (.inl (vp_updL ssa slv ((ssa slv) ||| (1 <<< (Int32.toInt64 (nI v) &&& 63))))))), (s2, .inl (cI, 38, .inl (upd stl sts (nI v)))), (s3, .inl (cI, 38, .inl (upd srs v z)))] H11 := hPn
    replace hD : va_D A [(s0, .inr (8, [.ref k0, .long (sy ||| (1 <<< (Int32.toInt64 (nI v) &&& 63))), .long sn, .int (nI slv), .ref s1, .ref s2, .int (nI (sts + 1)), .ref s3])), (s1, .inl (cL, 39, .inr (.inl (vp_updL ssa slv ((ssa slv) ||| (1 <<< (Int32.toInt64 (nI v) &&& 63))))))), (s2, .inl (cI, 38, .inl (upd stl sts (nI v)))), (s3, .inl (cI, 38, .inl (upd srs v z)))] := hDn
    replace hS := hSn
    clear hPn hDn hSn
    have hP9 := hP.sub (ws' := [(s0, .inr (8, [.ref k0, .long (sy ||| (1 <<< (Int32.toInt64 (nI v) &&& 63))), .long sn, .int (nI slv), .ref s1, .ref s2, .int (nI (sts + 1)), .ref s3])), (s1, .inl (cL, 39, .inr (.inl (vp_updL ssa slv ((ssa slv) ||| (1 <<< (Int32.toInt64 (nI v) &&& 63))))))), (s2, .inl (cI, 38, .inl (upd stl sts (nI v)))), (s3, .inl (cI, 38, .inl (upd srs v z)))]) [0, 1, 2, 3] rfl
    have hD9 := hD.sub (ws' := [(s0, .inr (8, [.ref k0, .long (sy ||| (1 <<< (Int32.toInt64 (nI v) &&& 63))), .long sn, .int (nI slv), .ref s1, .ref s2, .int (nI (sts + 1)), .ref s3])), (s1, .inl (cL, 39, .inr (.inl (vp_updL ssa slv ((ssa slv) ||| (1 <<< (Int32.toInt64 (nI v) &&& 63))))))), (s2, .inl (cI, 38, .inl (upd stl sts (nI v)))), (s3, .inl (cI, 38, .inl (upd srs v z)))]) [0, 1, 2, 3] (by decide) rfl
    subst hQ
    exact W.vret hx hb hr (fun t9 ht9 hW => ⟨⟨(), rfl, trivial, (sy ||| (1 <<< (Int32.toInt64 (nI v) &&& 63))), sn, (vp_updL ssa slv ((ssa slv) ||| (1 <<< (Int32.toInt64 (nI v) &&& 63)))), (upd stl sts (nI v)), (upd srs v z), (SeW.assign hsw hv hbn (asg_y hv)).1, (AllLt.put hstl hv), (AllN.put hsrs hz), by rw [ht9]; exact hP9, hD9⟩, hS.F ht9⟩) hS.2.2 d_Se_assign_75
