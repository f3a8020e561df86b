
set_option maxHeartbeats 4000000 in
set_option maxRecDepth 100000 in
theorem c_Mo_forget (l : Launch) (dC : Nat → ClassId) (dI : Nat → Nat → Nat) (cI cL cZ : ClassId) (sz : Nat) (m0 : Nat) (m1 : Nat) (m2 : Nat) (m3 : Nat) (m4 : Nat) (m5 : Nat) (m6 : Nat) (m7 : Nat) (m8 : Nat) (m9 : Nat) (m10 : Nat) (m11 : Nat) (m12 : Nat) (m13 : Nat) (m14 : Nat) (m15 : Nat) (m16 : Nat) (m17 : Nat) (mth : Int32) (mt : Nat) (mf : Int32) (mcd : Nat) (mev : Nat) (mwh : Int32) (mps : Int32) (mlr : Int64) (mlt : Nat) (mlm : Nat) (mln : Int32) : Met l y_Mo_forget (Cond.code y_Mo_forget prog_11_method_6_code 1 none :: wsA) { frames := 0, cells := 0, slots := 0, locals := 0 } (va_Pc [.ref m0] (fun U => U.heap.size = sz ∧ va_P (dC, dI) clA [(m0, .inr (9, [.int mth, .int (nI mt), .ref m1, .ref m2, .int mf, .int (nI mcd), .ref m3, .ref m4, .ref m5, .ref m6, .int (nI mev), .ref m7, .ref m8, .ref m9, .ref m10, .ref m11, .ref m12, .ref m13, .int mwh, .int mps, .ref m14, .ref m15, .long mlr, .int (nI mlt), .int (nI mlm), .ref m16, .int mln, .ref m17]))] U.heap ∧ va_K (dC, dI) clA [(cI, .int), (cL, .long), (cZ, .boolean)] U ∧ va_D (fun _ => True) [(m0, .inr (9, [.int mth, .int (nI mt), .ref m1, .ref m2, .int mf, .int (nI mcd), .ref m3, .ref m4, .ref m5, .ref m6, .int (nI mev), .ref m7, .ref m8, .ref m9, .ref m10, .ref m11, .ref m12, .ref m13, .int mwh, .int mps, .ref m14, .ref m15, .long mlr, .int (nI mlt), .int (nI mlm), .ref m16, .int mln, .ref m17]))] ∧ NwA U)) (va_Qv (fun _ : Unit => True) (fun _ t => va_P (dC, dI) clA [(m0, .inr (9, [.int mth, .int (nI mt), .ref m1, .ref m2, .int mf, .int 0, .ref m3, .ref m4, .ref m5, .ref m6, .int 0, .ref m7, .ref m8, .ref m9, .ref m10, .ref m11, .ref m12, .ref m13, .int 0, .int mps, .ref m14, .ref m15, .long mlr, .int (nI mlt), .int (nI mlm), .ref m16, .int (-1), .ref m17]))] t.heap ∧ va_D (va_A [(m0, .inr (9, [.int mth, .int (nI mt), .ref m1, .ref m2, .int mf, .int (nI mcd), .ref m3, .ref m4, .ref m5, .ref m6, .int (nI mev), .ref m7, .ref m8, .ref m9, .ref m10, .ref m11, .ref m12, .ref m13, .int mwh, .int mps, .ref m14, .ref m15, .long mlr, .int (nI mlt), .int (nI mlm), .ref m16, .int mln, .ref m17]))] sz) [(m0, .inr (9, [.int mth, .int (nI mt), .ref m1, .ref m2, .int mf, .int 0, .ref m3, .ref m4, .ref m5, .ref m6, .int 0, .ref m7, .ref m8, .ref m9, .ref m10, .ref m11, .ref m12, .ref m13, .int 0, .int mps, .ref m14, .ref m15, .long mlr, .int (nI mlt), .int (nI mlm), .ref m16, .int (-1), .ref m17]))]) (va_A [(m0, .inr (9, [.int mth, .int (nI mt), .ref m1, .ref m2, .int mf, .int (nI mcd), .ref m3, .ref m4, .ref m5, .ref m6, .int (nI mev), .ref m7, .ref m8, .ref m9, .ref m10, .ref m11, .ref m12, .ref m13, .int mwh, .int mps, .ref m14, .ref m15, .long mlr, .int (nI mlt), .int (nI mlm), .ref m16, .int mln, .ref m17]))] sz)) 0 0 (va_A [(m0, .inr (9, [.int mth, .int (nI mt), .ref m1, .ref m2, .int mf, .int (nI mcd), .ref m3, .ref m4, .ref m5, .ref m6, .int (nI mev), .ref m7, .ref m8, .ref m9, .ref m10, .ref m11, .ref m12, .ref m13, .int mwh, .int mps, .ref m14, .ref m15, .long mlr, .int (nI mlt), .int (nI mlm), .ref m16, .int mln, .ref m17]))] sz) := by
  refine Met.ofW (cc := prog_11_method_6_code) (maxL := 1) (ret := none) (by decide) rfl ?_
  intro p e s m args below meth c s₁ B hml hv
  obtain ⟨rfl, hsz, hP, hK, hD0, hN⟩ := hv
  have hx := B.exec
  have hb := B.bytes
  have hr := B.returns
  have ht : ∀ w ∈ wsA, w.before _ s = true := fun w h => atoms_spec (ws := (Cond.code y_Mo_forget prog_11_method_6_code 1 none :: wsA)) B.pre w (List.mem_cons_of_mem _ h)
  have hown : s.vm.findClass "NetUnfolderModel" = some m.cls := findClass_of_methodNamed B.named
  have hlocks := B.notSynchronized
  subst hsz
  have hD := hD0.self (sz := s.heap.size)
  generalize hAe : va_A [(m0, .inr (9, [.int mth, .int (nI mt), .ref m1, .ref m2, .int mf, .int (nI mcd), .ref m3, .ref m4, .ref m5, .ref m6, .int (nI mev), .ref m7, .ref m8, .ref m9, .ref m10, .ref m11, .ref m12, .ref m13, .int mwh, .int mps, .ref m14, .ref m15, .long mlr, .int (nI mlt), .int (nI mlm), .ref m16, .int mln, .ref m17]))] s.heap.size = A at hD ⊢
  have hA : ∀ q : Nat, s.heap.size ≤ q → A q := fun q h => by rw [← hAe]; exact Or.inr h
  have hS : va_S A s.heap s.heap [] := va_S.rf
  have hl := lv_entry ([.ref m0]) (n := 1) (Nat.le_of_ble_eq_true rfl)
  rw [lg_entry_eq]
  generalize (lg_sl ([.ref m0]) ++ List.replicate (1 - (lg_sl ([.ref m0])).length) Slot.unset).toArray = ls at hl ⊢
  replace hl : lv_has ls 1 [(0, .ref m0)] := hl
  refine W_Q (fun Q hQ => ?_)
  refine lv_aload_n hx hb d_Mo_forget_0 rfl (lv_at hl 0 rfl) ?_
  refine lv_iconst (v := 0) hx hb d_Mo_forget_1 (by decide) ?_
  refine va_put (D := (dC, dI)) (ci := 9) (v := .int 0) (ty := .int) (C := "NetUnfolderModel") (T := T_Mo) (N := 28) hx hb ht in_Mo ty_Mo ok_Mo nm_Mo hown hK hP hD hS 0 rfl rfl 10 (by decide) (ht _ wd_4_10) (fun _ h9 => h9) rfl (by decide +kernel) rfl rfl (Nat.le_of_ble_eq_true rfl) d_Mo_forget_2 (fun H1 locs hPn hDn hSn => ?_)
  replace hP : va_P (dC, dI) clA [(m0, .inr (9, [.int mth, .int (nI mt), .ref m1, .ref m2, .int mf, .int (nI mcd), .ref m3, .ref m4, .ref m5, .ref m6, .int 0, .ref m7, .ref m8, .ref m9, .ref m10, .ref m11, .ref m12, .ref m13, .int mwh, .int mps, .ref m14, .ref m15, .long mlr, .int (nI mlt), .int (nI mlm), .ref m16, .int mln, .ref m17]))] H1 := hPn
  replace hD : va_D A [(m0, .inr (9, [.int mth, .int (nI mt), .ref m1, .ref m2, .int mf, .int (nI mcd), .ref m3, .ref m4, .ref m5, .ref m6, .int 0, .ref m7, .ref m8, .ref m9, .ref m10, .ref m11, .ref m12, .ref m13, .int mwh, .int mps, .ref m14, .ref m15, .long mlr, .int (nI mlt), .int (nI mlm), .ref m16, .int mln, .ref m17]))] := hDn
  replace hS := hSn
  clear hPn hDn hSn
  refine lv_aload_n hx hb d_Mo_forget_5 rfl (lv_at hl 0 rfl) ?_
  refine lv_iconst (v := 0) hx hb d_Mo_forget_6 (by decide) ?_
  refine va_put (D := (dC, dI)) (ci := 9) (v := .int 0) (ty := .int) (C := "NetUnfolderModel") (T := T_Mo) (N := 28) hx hb ht in_Mo ty_Mo ok_Mo nm_Mo hown hK hP hD hS 0 rfl rfl 5 (by decide) (ht _ wd_4_5) (fun _ h9 => h9) rfl (by decide +kernel) rfl rfl (Nat.le_of_ble_eq_true rfl) d_Mo_forget_7 (fun H2 locs hPn hDn hSn => ?_)
  replace hP : va_P (dC, dI) clA [(m0, .inr (9, [.int mth, .int (nI mt), .ref m1, .ref m2, .int mf, .int 0, .ref m3, .ref m4, .ref m5, .ref m6, .int 0, .ref m7, .ref m8, .ref m9, .ref m10, .ref m11, .ref m12, .ref m13, .int mwh, .int mps, .ref m14, .ref m15, .long mlr, .int (nI mlt), .int (nI mlm), .ref m16, .int mln, .ref m17]))] H2 := hPn
  replace hD : va_D A [(m0, .inr (9, [.int mth, .int (nI mt), .ref m1, .ref m2, .int mf, .int 0, .ref m3, .ref m4, .ref m5, .ref m6, .int 0, .ref m7, .ref m8, .ref m9, .ref m10, .ref m11, .ref m12, .ref m13, .int mwh, .int mps, .ref m14, .ref m15, .long mlr, .int (nI mlt), .int (nI mlm), .ref m16, .int mln, .ref m17]))] := hDn
  replace hS := hSn
  clear hPn hDn hSn
  refine lv_aload_n hx hb d_Mo_forget_10 rfl (lv_at hl 0 rfl) ?_
  refine lv_iconst (v := 0) hx hb d_Mo_forget_11 (by decide) ?_
  refine va_put (D := (dC, dI)) (ci := 9) (v := .int 0) (ty := .boolean) (C := "NetUnfolderModel") (T := T_Mo) (N := 28) hx hb ht in_Mo ty_Mo ok_Mo nm_Mo hown hK hP hD hS 0 rfl rfl 18 (by decide) (ht _ wd_4_18) (fun _ h9 => h9) rfl (by decide +kernel) rfl rfl (Nat.le_of_ble_eq_true rfl) d_Mo_forget_12 (fun H3 locs hPn hDn hSn => ?_)
  replace hP : va_P (dC, dI) clA [(m0, .inr (9, [.int mth, .int (nI mt), .ref m1, .ref m2, .int mf, .int 0, .ref m3, .ref m4, .ref m5, .ref m6, .int 0, .ref m7, .ref m8, .ref m9, .ref m10, .ref m11, .ref m12, .ref m13, .int 0, .int mps, .ref m14, .ref m15, .long mlr, .int (nI mlt), .int (nI mlm), .ref m16, .int mln, .ref m17]))] H3 := hPn
  replace hD : va_D A [(m0, .inr (9, [.int mth, .int (nI mt), .ref m1, .ref m2, .int mf, .int 0, .ref m3, .ref m4, .ref m5, .ref m6, .int 0, .ref m7, .ref m8, .ref m9, .ref m10, .ref m11, .ref m12, .ref m13, .int 0, .int mps, .ref m14, .ref m15, .long mlr, .int (nI mlt), .int (nI mlm), .ref m16, .int mln, .ref m17]))] := hDn
  replace hS := hSn
  clear hPn hDn hSn
  refine lv_aload_n hx hb d_Mo_forget_15 rfl (lv_at hl 0 rfl) ?_
  refine lv_iconst (v := (-1)) hx hb d_Mo_forget_16 (by decide) ?_
  refine va_put (D := (dC, dI)) (ci := 9) (v := .int (-1)) (ty := .int) (C := "NetUnfolderModel") (T := T_Mo) (N := 28) hx hb ht in_Mo ty_Mo ok_Mo nm_Mo hown hK hP hD hS 0 rfl rfl 26 (by decide) (ht _ wd_4_26) (fun _ h9 => h9) rfl (by decide +kernel) rfl rfl (Nat.le_of_ble_eq_true rfl) d_Mo_forget_17 (fun H4 locs hPn hDn hSn => ?_)
  replace hP : va_P (dC, dI) clA [(m0, .inr (9, [.int mth, .int (nI mt), .ref m1, .ref m2, .int mf, .int 0, .ref m3, .ref m4, .ref m5, .ref m6, .int 0, .ref m7, .ref m8, .ref m9, .ref m10, .ref m11, .ref m12, .ref m13, .int 0, .int mps, .ref m14, .ref m15, .long mlr, .int (nI mlt), .int (nI mlm), .ref m16, .int (-1), .ref m17]))] H4 := hPn
  replace hD : va_D A [(m0, .inr (9, [.int mth, .int (nI mt), .ref m1, .ref m2, .int mf, .int 0, .ref m3, .ref m4, .ref m5, .ref m6, .int 0, .ref m7, .ref m8, .ref m9, .ref m10, .ref m11, .ref m12, .ref m13, .int 0, .int mps, .ref m14, .ref m15, .long mlr, .int (nI mlt), .int (nI mlm), .ref m16, .int (-1), .ref m17]))] := hDn
  replace hS := hSn
  clear hPn hDn hSn
  have hP9 := hP.sub (ws' := [(m0, .inr (9, [.int mth, .int (nI mt), .ref m1, .ref m2, .int mf, .int 0, .ref m3, .ref m4, .ref m5, .ref m6, .int 0, .ref m7, .ref m8, .ref m9, .ref m10, .ref m11, .ref m12, .ref m13, .int 0, .int mps, .ref m14, .ref m15, .long mlr, .int (nI mlt), .int (nI mlm), .ref m16, .int (-1), .ref m17]))]) [0] rfl
  have hD9 := hD.sub (ws' := [(m0, .inr (9, [.int mth, .int (nI mt), .ref m1, .ref m2, .int mf, .int 0, .ref m3, .ref m4, .ref m5, .ref m6, .int 0, .ref m7, .ref m8, .ref m9, .ref m10, .ref m11, .ref m12, .ref m13, .int 0, .int mps, .ref m14, .ref m15, .long mlr, .int (nI mlt), .int (nI mlm), .ref m16, .int (-1), .ref m17]))]) [0] (by decide) rfl
  subst hQ
  exact W.vret hx hb hr (fun t9 ht9 hW => ⟨⟨(), rfl, trivial, by rw [ht9]; exact hP9, hD9⟩, hS.F ht9⟩) hS.2.2 d_Mo_forget_20

set_option maxHeartbeats 4000000 in
set_option maxRecDepth 100000 in
theorem c_Mo_refuse (l : Launch) (dC : Nat → ClassId) (dI : Nat → Nat → Nat) (cI cL cZ : ClassId) (sz : Nat) (m0 : Nat) (m1 : Nat) (m2 : Nat) (m3 : Nat) (m4 : Nat) (m5 : Nat) (m6 : Nat) (m7 : Nat) (m8 : Nat) (m9 : Nat) (m10 : Nat) (m11 : Nat) (m12 : Nat) (m13 : Nat) (m14 : Nat) (m15 : Nat) (m16 : Nat) (m17 : Nat) (mth : Int32) (mt : Nat) (mf : Int32) (mcd : Nat) (mev : Nat) (mwh : Int32) (mps : Int32) (mlr : Int64) (mlt : Nat) (mlm : Nat) (mln : Int32) (x : Int32) : Met l y_Mo_refuse (Cond.code y_Mo_refuse prog_11_method_3_code 2 (some .int) :: wsA) { frames := 0, cells := 0, slots := 0, locals := 0 } (va_Pc [.ref m0, .int x] (fun U => U.heap.size = sz ∧ va_P (dC, dI) clA [(m0, .inr (9, [.int mth, .int (nI mt), .ref m1, .ref m2, .int mf, .int (nI mcd), .ref m3, .ref m4, .ref m5, .ref m6, .int (nI mev), .ref m7, .ref m8, .ref m9, .ref m10, .ref m11, .ref m12, .ref m13, .int mwh, .int mps, .ref m14, .ref m15, .long mlr, .int (nI mlt), .int (nI mlm), .ref m16, .int mln, .ref m17]))] U.heap ∧ va_K (dC, dI) clA [(cI, .int), (cL, .long), (cZ, .boolean)] U ∧ va_D (fun _ => True) [(m0, .inr (9, [.int mth, .int (nI mt), .ref m1, .ref m2, .int mf, .int (nI mcd), .ref m3, .ref m4, .ref m5, .ref m6, .int (nI mev), .ref m7, .ref m8, .ref m9, .ref m10, .ref m11, .ref m12, .ref m13, .int mwh, .int mps, .ref m14, .ref m15, .long mlr, .int (nI mlt), .int (nI mlm), .ref m16, .int mln, .ref m17]))] ∧ NwA U)) (va_Qi (fun r (_ : Unit) => r = 0) (fun _ t => va_P (dC, dI) clA [(m0, .inr (9, [.int x, .int (nI mt), .ref m1, .ref m2, .int mf, .int (nI mcd), .ref m3, .ref m4, .ref m5, .ref m6, .int (nI mev), .ref m7, .ref m8, .ref m9, .ref m10, .ref m11, .ref m12, .ref m13, .int mwh, .int mps, .ref m14, .ref m15, .long mlr, .int (nI mlt), .int (nI mlm), .ref m16, .int mln, .ref m17]))] t.heap ∧ va_D (va_A [(m0, .inr (9, [.int mth, .int (nI mt), .ref m1, .ref m2, .int mf, .int (nI mcd), .ref m3, .ref m4, .ref m5, .ref m6, .int (nI mev), .ref m7, .ref m8, .ref m9, .ref m10, .ref m11, .ref m12, .ref m13, .int mwh, .int mps, .ref m14, .ref m15, .long mlr, .int (nI mlt), .int (nI mlm), .ref m16, .int mln, .ref m17]))] sz) [(m0, .inr (9, [.int x, .int (nI mt), .ref m1, .ref m2, .int mf, .int (nI mcd), .ref m3, .ref m4, .ref m5, .ref m6, .int (nI mev), .ref m7, .ref m8, .ref m9, .ref m10, .ref m11, .ref m12, .ref m13, .int mwh, .int mps, .ref m14, .ref m15, .long mlr, .int (nI mlt), .int (nI mlm), .ref m16, .int mln, .ref m17]))]) (va_A [(m0, .inr (9, [.int mth, .int (nI mt), .ref m1, .ref m2, .int mf, .int (nI mcd), .ref m3, .ref m4, .ref m5, .ref m6, .int (nI mev), .ref m7, .ref m8, .ref m9, .ref m10, .ref m11, .ref m12, .ref m13, .int mwh, .int mps, .ref m14, .ref m15, .long mlr, .int (nI mlt), .int (nI mlm), .ref m16, .int mln, .ref m17]))] sz)) 0 0 (va_A [(m0, .inr (9, [.int mth, .int (nI mt), .ref m1, .ref m2, .int mf, .int (nI mcd), .ref m3, .ref m4, .ref m5, .ref m6, .int (nI mev), .ref m7, .ref m8, .ref m9, .ref m10, .ref m11, .ref m12, .ref m13, .int mwh, .int mps, .ref m14, .ref m15, .long mlr, .int (nI mlt), .int (nI mlm), .ref m16, .int mln, .ref m17]))] sz) := by
  refine Met.ofW (cc := prog_11_method_3_code) (maxL := 2) (ret := (some .int)) (by decide) rfl ?_
  intro p e s m args below meth c s₁ B hml hv
  obtain ⟨rfl, hsz, hP, hK, hD0, hN⟩ := hv
  have hx := B.exec
  have hb := B.bytes
  have hr := B.returns
  have ht : ∀ w ∈ wsA, w.before _ s = true := fun w h => atoms_spec (ws := (Cond.code y_Mo_refuse prog_11_method_3_code 2 (some .int) :: wsA)) B.pre w (List.mem_cons_of_mem _ h)
  have hown : s.vm.findClass "NetUnfolderModel" = some m.cls := findClass_of_methodNamed B.named
  have hlocks := B.notSynchronized
  subst hsz
  have hD := hD0.self (sz := s.heap.size)
  generalize hAe : va_A [(m0, .inr (9, [.int mth, .int (nI mt), .ref m1, .ref m2, .int mf, .int (nI mcd), .ref m3, .ref m4, .ref m5, .ref m6, .int (nI mev), .ref m7, .ref m8, .ref m9, .ref m10, .ref m11, .ref m12, .ref m13, .int mwh, .int mps, .ref m14, .ref m15, .long mlr, .int (nI mlt), .int (nI mlm), .ref m16, .int mln, .ref m17]))] s.heap.size = A at hD ⊢
  have hA : ∀ q : Nat, s.heap.size ≤ q → A q := fun q h => by rw [← hAe]; exact Or.inr h
  have hS : va_S A s.heap s.heap [] := va_S.rf
  have hl := lv_entry ([.ref m0, .int x]) (n := 2) (Nat.le_of_ble_eq_true rfl)
  rw [lg_entry_eq]
  generalize (lg_sl ([.ref m0, .int x]) ++ List.replicate (2 - (lg_sl ([.ref m0, .int x])).length) Slot.unset).toArray = ls at hl ⊢
  replace hl : lv_has ls 2 [(0, .ref m0), (1, .int x)] := hl
  refine W_Q (fun Q hQ => ?_)
  refine lv_aload_n hx hb d_Mo_refuse_0 rfl (lv_at hl 0 rfl) ?_
  refine lv_iload_n hx hb d_Mo_refuse_1 rfl (lv_at hl 1 rfl) ?_
  refine va_put (D := (dC, dI)) (ci := 9) (v := .int x) (ty := .int) (C := "NetUnfolderModel") (T := T_Mo) (N := 28) hx hb ht in_Mo ty_Mo ok_Mo nm_Mo hown hK hP hD hS 0 rfl rfl 0 (by decide) (ht _ wd_4_0) (fun _ h9 => h9) rfl (by decide +kernel) rfl rfl (Nat.le_of_ble_eq_true rfl) d_Mo_refuse_2 (fun H1 locs hPn hDn hSn => ?_)
  replace hP : va_P (dC, dI) clA [(m0, .inr (9, [.int x, .int (nI mt), .ref m1, .ref m2, .int mf, .int (nI mcd), .ref m3, .ref m4, .ref m5, .ref m6, .int (nI mev), .ref m7, .ref m8, .ref m9, .ref m10, .ref m11, .ref m12, .ref m13, .int mwh, .int mps, .ref m14, .ref m15, .long mlr, .int (nI mlt), .int (nI mlm), .ref m16, .int mln, .ref m17]))] H1 := hPn
  replace hD : va_D A [(m0, .inr (9, [.int x, .int (nI mt), .ref m1, .ref m2, .int mf, .int (nI mcd), .ref m3, .ref m4, .ref m5, .ref m6, .int (nI mev), .ref m7, .ref m8, .ref m9, .ref m10, .ref m11, .ref m12, .ref m13, .int mwh, .int mps, .ref m14, .ref m15, .long mlr, .int (nI mlt), .int (nI mlm), .ref m16, .int mln, .ref m17]))] := hDn
  replace hS := hSn
  clear hPn hDn hSn
  refine lv_iconst (v := 0) hx hb d_Mo_refuse_5 (by decide) ?_
  have hP9 := hP.sub (ws' := [(m0, .inr (9, [.int x, .int (nI mt), .ref m1, .ref m2, .int mf, .int (nI mcd), .ref m3, .ref m4, .ref m5, .ref m6, .int (nI mev), .ref m7, .ref m8, .ref m9, .ref m10, .ref m11, .ref m12, .ref m13, .int mwh, .int mps, .ref m14, .ref m15, .long mlr, .int (nI mlt), .int (nI mlm), .ref m16, .int mln, .ref m17]))]) [0] rfl
  have hD9 := hD.sub (ws' := [(m0, .inr (9, [.int x, .int (nI mt), .ref m1, .ref m2, .int mf, .int (nI mcd), .ref m3, .ref m4, .ref m5, .ref m6, .int (nI mev), .ref m7, .ref m8, .ref m9, .ref m10, .ref m11, .ref m12, .ref m13, .int mwh, .int mps, .ref m14, .ref m15, .long mlr, .int (nI mlt), .int (nI mlm), .ref m16, .int mln, .ref m17]))]) [0] (by decide) rfl
  subst hQ
  exact W.iret (v := 0) hx hb hr (fun t9 ht9 hW => ⟨⟨0, (), rfl, rfl, by rw [ht9]; exact hP9, hD9⟩, hS.F ht9⟩) hS.2.2 d_Mo_refuse_6

set_option maxHeartbeats 4000000 in
set_option maxRecDepth 100000 in
theorem c_Mo_outside (l : Launch) (dC : Nat → ClassId) (dI : Nat → Nat → Nat) (cI cL cZ : ClassId) (sz : Nat) (x : Int32) (y : Int32) (z : Int32) : Met l y_Mo_outside (Cond.code y_Mo_outside prog_11_method_4_code 3 (some .boolean) :: wsA) { frames := 0, cells := 0, slots := 0, locals := 0 } (va_Pc [.int x, .int y, .int z] (fun U => U.heap.size = sz ∧ va_P (dC, dI) clA [] U.heap ∧ va_K (dC, dI) clA [(cI, .int), (cL, .long), (cZ, .boolean)] U ∧ va_D (fun _ => True) [] ∧ NwA U)) (va_Qi (fun r (_ : Unit) => ((r = 1 ∧ (x < y ∨ z < x)) ∨ (r = 0 ∧ ¬ x < y ∧ ¬ z < x))) (fun _ t => va_P (dC, dI) clA [] t.heap ∧ va_D (va_A [] sz) []) (va_A [] sz)) 0 0 (va_A [] sz) := by
  refine Met.ofW (cc := prog_11_method_4_code) (maxL := 3) (ret := (some .boolean)) (by decide) rfl ?_
  intro p e s m args below meth c s₁ B hml hv
  obtain ⟨rfl, hsz, hP, hK, hD0, hN⟩ := hv
  have hx := B.exec
  have hb := B.bytes
  have hr := B.returns
  have ht : ∀ w ∈ wsA, w.before _ s = true := fun w h => atoms_spec (ws := (Cond.code y_Mo_outside prog_11_method_4_code 3 (some .boolean) :: wsA)) B.pre w (List.mem_cons_of_mem _ h)
  have hown : s.vm.findClass "NetUnfolderModel" = some m.cls := findClass_of_methodNamed B.named
  have hlocks := B.notSynchronized
  subst hsz
  have hD := hD0.self (sz := s.heap.size)
  generalize hAe : va_A [] s.heap.size = A at hD ⊢
  have hA : ∀ q : Nat, s.heap.size ≤ q → A q := fun q h => by rw [← hAe]; exact Or.inr h
  have hS : va_S A s.heap s.heap [] := va_S.rf
  have hl := lv_entry ([.int x, .int y, .int z]) (n := 3) (Nat.le_of_ble_eq_true rfl)
  rw [lg_entry_eq]
  generalize (lg_sl ([.int x, .int y, .int z]) ++ List.replicate (3 - (lg_sl ([.int x, .int y, .int z])).length) Slot.unset).toArray = ls at hl ⊢
  replace hl : lv_has ls 3 [(0, .int x), (1, .int y), (2, .int z)] := hl
  refine W_Q (fun Q hQ => ?_)
  refine lv_iload_n hx hb d_Mo_outside_0 rfl (lv_at hl 0 rfl) ?_
  refine lv_iload_n hx hb d_Mo_outside_1 rfl (lv_at hl 1 rfl) ?_
  refine lv_icmp_lt (tgt := 10) hx hb d_Mo_outside_2 (by decide) (fun hb1 => ?_) (fun hb1 => ?_)
  · skip
    refine lv_iconst (v := 1) hx hb d_Mo_outside_10 (by decide) ?_
    refine lv_goto (tgt := 15) hx hb d_Mo_outside_11 (by decide) ?_
    have hP9 := hP.sub (ws' := []) [] rfl
    have hD9 := hD.sub (ws' := []) [] (by decide) rfl
    subst hQ
    exact W.zret (v := 1) hx hb hr rfl (fun t9 ht9 hW => ⟨⟨1, (), rfl, (Or.inl ⟨rfl, Or.inl hb1⟩), by rw [ht9]; exact hP9, hD9⟩, hS.F ht9⟩) hS.2.2 d_Mo_outside_15
  · skip
    refine lv_iload_n hx hb d_Mo_outside_5 rfl (lv_at hl 0 rfl) ?_
    refine lv_iload_n hx hb d_Mo_outside_6 rfl (lv_at hl 2 rfl) ?_
    refine lv_icmp_le (tgt := 14) hx hb d_Mo_outside_7 (by decide) (fun hb2 => ?_) (fun hb2 => ?_)
    · skip
      refine lv_iconst (v := 0) hx hb d_Mo_outside_14 (by decide) ?_
      have hP9 := hP.sub (ws' := []) [] rfl
      have hD9 := hD.sub (ws' := []) [] (by decide) rfl
      subst hQ
      exact W.zret (v := 0) hx hb hr rfl (fun t9 ht9 hW => ⟨⟨0, (), rfl, (Or.inr ⟨rfl, hb1, (le_nlt hb2)⟩), by rw [ht9]; exact hP9, hD9⟩, hS.F ht9⟩) hS.2.2 d_Mo_outside_15
    · skip
      refine lv_iconst (v := 1) hx hb d_Mo_outside_10 (by decide) ?_
      refine lv_goto (tgt := 15) hx hb d_Mo_outside_11 (by decide) ?_
      have hP9 := hP.sub (ws' := []) [] rfl
      have hD9 := hD.sub (ws' := []) [] (by decide) rfl
      subst hQ
      exact W.zret (v := 1) hx hb hr rfl (fun t9 ht9 hW => ⟨⟨1, (), rfl, (Or.inl ⟨rfl, Or.inr (gt_of_nle hb2)⟩), by rw [ht9]; exact hP9, hD9⟩, hS.F ht9⟩) hS.2.2 d_Mo_outside_15

set_option maxHeartbeats 4000000 in
set_option maxRecDepth 100000 in
theorem c_Mo_fire (l : Launch) (dC : Nat → ClassId) (dI : Nat → Nat → Nat) (cI cL cZ : ClassId) (sz : Nat) (x : Int32) (y : Int32) (z : Int32) : Met l y_Mo_fire (Cond.code y_Mo_fire prog_11_method_12_code 3 (some .int) :: wsA) { frames := 0, cells := 0, slots := 0, locals := 0 } (va_Pc [.int x, .int y, .int z] (fun U => U.heap.size = sz ∧ va_P (dC, dI) clA [] U.heap ∧ va_K (dC, dI) clA [(cI, .int), (cL, .long), (cZ, .boolean)] U ∧ va_D (fun _ => True) [] ∧ NwA U)) (va_Qi (fun r (_ : Unit) => True) (fun _ t => va_P (dC, dI) clA [] t.heap ∧ va_D (va_A [] sz) []) (va_A [] sz)) 0 0 (va_A [] sz) := by
  refine Met.ofW (cc := prog_11_method_12_code) (maxL := 3) (ret := (some .int)) (by decide) rfl ?_
  intro p e s m args below meth c s₁ B hml hv
  obtain ⟨rfl, hsz, hP, hK, hD0, hN⟩ := hv
  have hx := B.exec
  have hb := B.bytes
  have hr := B.returns
  have ht : ∀ w ∈ wsA, w.before _ s = true := fun w h => atoms_spec (ws := (Cond.code y_Mo_fire prog_11_method_12_code 3 (some .int) :: wsA)) B.pre w (List.mem_cons_of_mem _ h)
  have hown : s.vm.findClass "NetUnfolderModel" = some m.cls := findClass_of_methodNamed B.named
  have hlocks := B.notSynchronized
  subst hsz
  have hD := hD0.self (sz := s.heap.size)
  generalize hAe : va_A [] s.heap.size = A at hD ⊢
  have hA : ∀ q : Nat, s.heap.size ≤ q → A q := fun q h => by rw [← hAe]; exact Or.inr h
  have hS : va_S A s.heap s.heap [] := va_S.rf
  have hl := lv_entry ([.int x, .int y, .int z]) (n := 3) (Nat.le_of_ble_eq_true rfl)
  rw [lg_entry_eq]
  generalize (lg_sl ([.int x, .int y, .int z]) ++ List.replicate (3 - (lg_sl ([.int x, .int y, .int z])).length) Slot.unset).toArray = ls at hl ⊢
  replace hl : lv_has ls 3 [(0, .int x), (1, .int y), (2, .int z)] := hl
  refine W_Q (fun Q hQ => ?_)
  refine lv_iload_n hx hb d_Mo_fire_0 rfl (lv_at hl 0 rfl) ?_
  refine lv_iload_n hx hb d_Mo_fire_1 rfl (lv_at hl 1 rfl) ?_
  refine lv_iconst (v := (-1)) hx hb d_Mo_fire_2 (by decide) ?_
  refine lv_ixor hx hb d_Mo_fire_3 ?_
  refine lv_iand hx hb d_Mo_fire_4 ?_
  refine lv_iload_n hx hb d_Mo_fire_5 rfl (lv_at hl 2 rfl) ?_
  refine lv_ior hx hb d_Mo_fire_6 ?_
  have hP9 := hP.sub (ws' := []) [] rfl
  have hD9 := hD.sub (ws' := []) [] (by decide) rfl
  subst hQ
  exact W.iret (v := (x &&& (y ^^^ (-1))) ||| z) hx hb hr (fun t9 ht9 hW => ⟨⟨(x &&& (y ^^^ (-1))) ||| z, (), rfl, trivial, by rw [ht9]; exact hP9, hD9⟩, hS.F ht9⟩) hS.2.2 d_Mo_fire_7

set_option maxHeartbeats 4000000 in
set_option maxRecDepth 100000 in
theorem c_Mo_sizeOf (l : Launch) (dC : Nat → ClassId) (dI : Nat → Nat → Nat) (cI cL cZ : ClassId) (sz : Nat) (n : Nat) (hn : n < 256) : Met l y_Mo_sizeOf (Cond.code y_Mo_sizeOf prog_11_method_22_code 3 (some .int) :: wsA) { frames := 0, cells := 0, slots := 0, locals := 0 } (va_Pc [.int (nI n)] (fun U => U.heap.size = sz ∧ va_P (dC, dI) clA [] U.heap ∧ va_K (dC, dI) clA [(cI, .int), (cL, .long), (cZ, .boolean)] U ∧ va_D (fun _ => True) [] ∧ NwA U)) (va_Qi (fun r (_ : Unit) => r = nI (bC n 8)) (fun _ t => va_P (dC, dI) clA [] t.heap ∧ va_D (va_A [] sz) []) (va_A [] sz)) 0 0 (va_A [] sz) := by
  refine Met.ofW (cc := prog_11_method_22_code) (maxL := 3) (ret := (some .int)) (by decide) rfl ?_
  intro p e s m args below meth c s₁ B hml hv
  obtain ⟨rfl, hsz, hP, hK, hD0, hN⟩ := hv
  have hx := B.exec
  have hb := B.bytes
  have hr := B.returns
  have ht : ∀ w ∈ wsA, w.before _ s = true := fun w h => atoms_spec (ws := (Cond.code y_Mo_sizeOf prog_11_method_22_code 3 (some .int) :: wsA)) B.pre w (List.mem_cons_of_mem _ h)
  have hown : s.vm.findClass "NetUnfolderModel" = some m.cls := findClass_of_methodNamed B.named
  have hlocks := B.notSynchronized
  subst hsz
  have hD := hD0.self (sz := s.heap.size)
  generalize hAe : va_A [] s.heap.size = A at hD ⊢
  have hA : ∀ q : Nat, s.heap.size ≤ q → A q := fun q h => by rw [← hAe]; exact Or.inr h
  have hS : va_S A s.heap s.heap [] := va_S.rf
  have hl := lv_entry ([.int (nI n)]) (n := 3) (Nat.le_of_ble_eq_true rfl)
  rw [lg_entry_eq]
  generalize (lg_sl ([.int (nI n)]) ++ List.replicate (3 - (lg_sl ([.int (nI n)])).length) Slot.unset).toArray = ls at hl ⊢
  replace hl : lv_has ls 3 [(0, .int (nI n))] := hl
  refine W_Q (fun Q hQ => ?_)
  refine lv_iconst (v := 0) hx hb d_Mo_sizeOf_0 (by decide) ?_
  refine lv_istore_n (lv' := [(1, .int 0), (0, .int (nI n))]) hx hb d_Mo_sizeOf_1 rfl hl (by decide) rfl (fun ls hln => ?_)
  replace hl : lv_has ls 3 [(1, .int 0), (0, .int (nI n))] := hln
  clear hln
  refine lv_iconst (v := 0) hx hb d_Mo_sizeOf_2 (by decide) ?_
  refine lv_istore_n (lv' := [(2, .int 0), (1, .int 0), (0, .int (nI n))]) hx hb d_Mo_sizeOf_3 rfl hl (by decide) rfl (fun ls hln => ?_)
  replace hl : lv_has ls 3 [(2, .int 0), (1, .int 0), (0, .int (nI n))] := hln
  clear hln
  have hloop1 : ∀ (n4 : Nat) (v : Nat) (i : Nat) (hi : i ≤ 8) (hv : v = bC n i) (H : Heap) (locs : List Loc) (ls : Array Slot) (hl : lv_has ls 3 [(0, .int (nI n)), (1, .int (nI v)), (2, .int (nI i))]) (hP : va_P (dC, dI) clA [] H) (hD : va_D A []) (hS : va_S A s.heap H locs) (hm4 : 8 - i < n4), W p l e (headSpec (Cond.code y_Mo_sizeOf prog_11_method_22_code 3 (some .int) :: wsA) { frames := 0, cells := 0, slots := 0, locals := 0 }).room s m ([.int (nI n)] : List Value).toArray below meth c H locs 0 0 Q (F0 m 4 ls []) := by
    clear hl hP hD hS
    intro n4
    induction n4 with
    | zero => intro v i hi hv H locs ls hl hP hD hS hm; exact absurd hm (Nat.not_lt_zero _)
    | succ n4 hloop1_ih =>
      intro v i hi hv H locs ls hl hP hD hS hm4
      refine lv_iload_n hx hb d_Mo_sizeOf_4 rfl (lv_at hl 2 rfl) ?_
      refine lv_bipush (v := 8) hx hb d_Mo_sizeOf_5 (by decide) ?_
      refine lv_icmp_ge (tgt := 24) hx hb d_Mo_sizeOf_7 (by decide) (fun hb2 => ?_) (fun hb2 => ?_)
      · skip
        replace hb2 := cv_le (a := 8) (b := i) (by omega) (by omega) hb2
        refine lv_iload_n hx hb d_Mo_sizeOf_24 rfl (lv_at hl 1 rfl) ?_
        have hP9 := hP.sub (ws' := []) [] rfl
        have hD9 := hD.sub (ws' := []) [] (by decide) rfl
        subst hQ
        exact W.iret (v := nI v) hx hb hr (fun t9 ht9 hW => ⟨⟨nI v, (), rfl, (congrArg nI (by have e9 : i = 8 := (by omega); rw [hv, e9])), by rw [ht9]; exact hP9, hD9⟩, hS.F ht9⟩) hS.2.2 d_Mo_sizeOf_25
      · skip
        replace hb2 := cv_nle (a := 8) (b := i) (by omega) (by omega) hb2
        refine lv_iload_n hx hb d_Mo_sizeOf_10 rfl (lv_at hl 1 rfl) ?_
        refine lv_iload_n hx hb d_Mo_sizeOf_11 rfl (lv_at hl 0 rfl) ?_
        refine lv_iload_n hx hb d_Mo_sizeOf_12 rfl (lv_at hl 2 rfl) ?_
        refine lv_ishr hx hb d_Mo_sizeOf_13 ?_
        refine lv_iconst (v := 1) hx hb d_Mo_sizeOf_14 (by decide) ?_
        refine lv_iand hx hb d_Mo_sizeOf_15 ?_
        refine ci_i (y := nI (bN n i)) (bN_eq n (by omega) i (by omega)) ?_
        have hbN3 := bN_le n i
        refine lv_iadd hx hb d_Mo_sizeOf_16 ?_
        refine ci_i (y := nI (v + bN n i)) (cv_add v (bN n i)) ?_
        refine lv_istore_n (lv' := [(1, .int (nI (v + bN n i))), (0, .int (nI n)), (2, .int (nI i))]) hx hb d_Mo_sizeOf_17 rfl hl (by decide) rfl (fun ls hln => ?_)
        replace hl : lv_has ls 3 [(1, .int (nI (v + bN n i))), (0, .int (nI n)), (2, .int (nI i))] := hln
        clear hln
        refine lv_iinc (k := 2) (v := nI (i + 1)) (lv' := [(2, .int (nI (i + 1))), (1, .int (nI (v + bN n i))), (0, .int (nI n))]) hx hb d_Mo_sizeOf_18 hl rfl (nI_1 _) (by decide) rfl (fun ls hln => ?_)
        replace hl : lv_has ls 3 [(2, .int (nI (i + 1))), (1, .int (nI (v + bN n i))), (0, .int (nI n))] := hln
        clear hln
        refine lv_goto (tgt := 4) hx hb d_Mo_sizeOf_21 (by decide) ?_
        exact hloop1_ih (v + bN n i) (i + 1) (by first | assumption | omega | trivial | exact AllLt.zero | exact AllN.zero | exact AllM.zero | exact Or.inl rfl | exact Or.inr rfl) (by rw [bC_s]; omega) _ _ ls (lv_sub hl [2, 1, 0] rfl) (hP.sub [] rfl) (hD.sub [] (by decide) rfl) hS (by omega)
  exact hloop1 ((8 - 0) + 1) 0 0 (by first | assumption | omega | trivial | exact AllLt.zero | exact AllN.zero | exact AllM.zero | exact Or.inl rfl | exact Or.inr rfl) rfl _ _ ls (lv_sub hl [2, 1, 0] rfl) hP hD hS (Nat.lt_succ_self _)

set_option maxHeartbeats 4000000 in
set_option maxRecDepth 100000 in
theorem c_Mo_placeOf (l : Launch) (dC : Nat → ClassId) (dI : Nat → Nat → Nat) (cI cL cZ : ClassId) (sz : Nat) (n : Nat) (k : Nat) (hn : n < 256) (hk : k < bC n 8) : Met l y_Mo_placeOf (Cond.code y_Mo_placeOf prog_11_method_21_code 4 (some .int) :: wsA) { frames := 0, cells := 0, slots := 0, locals := 0 } (va_Pc [.int (nI n), .int (nI k)] (fun U => U.heap.size = sz ∧ va_P (dC, dI) clA [] U.heap ∧ va_K (dC, dI) clA [(cI, .int), (cL, .long), (cZ, .boolean)] U ∧ va_D (fun _ => True) [] ∧ NwA U)) (va_Qi (fun r (_ : Unit) => ∃ (j : Nat), (j < 8) ∧ r = nI j) (fun _ t => va_P (dC, dI) clA [] t.heap ∧ va_D (va_A [] sz) []) (va_A [] sz)) 0 0 (va_A [] sz) := by
  refine Met.ofW (cc := prog_11_method_21_code) (maxL := 4) (ret := (some .int)) (by decide) rfl ?_
  intro p e s m args below meth c s₁ B hml hv
  obtain ⟨rfl, hsz, hP, hK, hD0, hN⟩ := hv
  have hx := B.exec
  have hb := B.bytes
  have hr := B.returns
  have ht : ∀ w ∈ wsA, w.before _ s = true := fun w h => atoms_spec (ws := (Cond.code y_Mo_placeOf prog_11_method_21_code 4 (some .int) :: wsA)) B.pre w (List.mem_cons_of_mem _ h)
  have hown : s.vm.findClass "NetUnfolderModel" = some m.cls := findClass_of_methodNamed B.named
  have hlocks := B.notSynchronized
  subst hsz
  have hD := hD0.self (sz := s.heap.size)
  generalize hAe : va_A [] s.heap.size = A at hD ⊢
  have hA : ∀ q : Nat, s.heap.size ≤ q → A q := fun q h => by rw [← hAe]; exact Or.inr h
  have hS : va_S A s.heap s.heap [] := va_S.rf
  have hl := lv_entry ([.int (nI n), .int (nI k)]) (n := 4) (Nat.le_of_ble_eq_true rfl)
  rw [lg_entry_eq]
  generalize (lg_sl ([.int (nI n), .int (nI k)]) ++ List.replicate (4 - (lg_sl ([.int (nI n), .int (nI k)])).length) Slot.unset).toArray = ls at hl ⊢
  replace hl : lv_has ls 4 [(0, .int (nI n)), (1, .int (nI k))] := hl
  refine W_Q (fun Q hQ => ?_)
  have hk8 := bC_i n 8
  refine lv_iconst (v := 0) hx hb d_Mo_placeOf_0 (by decide) ?_
  refine lv_istore_n (lv' := [(2, .int 0), (0, .int (nI n)), (1, .int (nI k))]) hx hb d_Mo_placeOf_1 rfl hl (by decide) rfl (fun ls hln => ?_)
  replace hl : lv_has ls 4 [(2, .int 0), (0, .int (nI n)), (1, .int (nI k))] := hln
  clear hln
  refine lv_iload_n hx hb d_Mo_placeOf_2 rfl (lv_at hl 2 rfl) ?_
  refine lv_istore_n (lv' := [(3, .int (nI k)), (2, .int 0), (0, .int (nI n)), (1, .int (nI k))]) hx hb d_Mo_placeOf_3 rfl hl (by decide) rfl (fun ls hln => ?_)
  replace hl : lv_has ls 4 [(3, .int (nI k)), (2, .int 0), (0, .int (nI n)), (1, .int (nI k))] := hln
  clear hln
  have hloop1 : ∀ (n4 : Nat) (q : Nat) (i : Nat) (hi : i ≤ 8) (hq : q + bC n i = k) (H : Heap) (locs : List Loc) (ls : Array Slot) (hl : lv_has ls 4 [(0, .int (nI n)), (1, .int (nI k)), (2, .int (nI i)), (3, .int (nI q))]) (hP : va_P (dC, dI) clA [] H) (hD : va_D A []) (hS : va_S A s.heap H locs) (hm4 : 8 - i < n4), W p l e (headSpec (Cond.code y_Mo_placeOf prog_11_method_21_code 4 (some .int) :: wsA) { frames := 0, cells := 0, slots := 0, locals := 0 }).room s m ([.int (nI n), .int (nI k)] : List Value).toArray below meth c H locs 0 0 Q (F0 m 4 ls []) := by
    clear hl hP hD hS
    intro n4
    induction n4 with
    | zero => intro q i hi hq H locs ls hl hP hD hS hm; exact absurd hm (Nat.not_lt_zero _)
    | succ n4 hloop1_ih =>
      intro q i hi hq H locs ls hl hP hD hS hm4
      have hi8 := po_i hi hq hk
      have hbs := bC_s n i
      refine lv_iload_n hx hb d_Mo_placeOf_4 rfl (lv_at hl 0 rfl) ?_
      refine lv_iload_n hx hb d_Mo_placeOf_5 rfl (lv_at hl 2 rfl) ?_
      refine lv_ishr hx hb d_Mo_placeOf_6 ?_
      refine lv_iconst (v := 1) hx hb d_Mo_placeOf_7 (by decide) ?_
      refine lv_iand hx hb d_Mo_placeOf_8 ?_
      refine ci_i (y := nI (bN n i)) (bN_eq n (by omega) i (by omega)) ?_
      have hbN2 := bN_le n i
      refine lv_if_eq (tgt := 16) hx hb d_Mo_placeOf_9 (by decide) (fun hb3 => ?_) (fun hb3 => ?_)
      · skip
        replace hb3 := cv_eq (a := bN n i) (b := 0) (by omega) (by omega) hb3
        refine lv_iload_n hx hb d_Mo_placeOf_16 rfl (lv_at hl 0 rfl) ?_
        refine lv_iload_n hx hb d_Mo_placeOf_17 rfl (lv_at hl 2 rfl) ?_
        refine lv_ishr hx hb d_Mo_placeOf_18 ?_
        refine lv_iconst (v := 1) hx hb d_Mo_placeOf_19 (by decide) ?_
        refine lv_iand hx hb d_Mo_placeOf_20 ?_
        refine ci_i (y := nI (bN n i)) (bN_eq n (by omega) i (by omega)) ?_
        have hbN4 := bN_le n i
        refine lv_iconst (v := 1) hx hb d_Mo_placeOf_21 (by decide) ?_
        refine lv_icmp_ne (tgt := 31) hx hb d_Mo_placeOf_22 (by decide) (fun hb5 => ?_) (fun hb5 => ?_)
        · skip
          replace hb5 := cv_ne (a := bN n i) (b := 1) (by omega) (by omega) hb5
          refine lv_iload_n hx hb d_Mo_placeOf_31 rfl (lv_at hl 3 rfl) ?_
          refine lv_istore_n (lv' := [(3, .int (nI q)), (0, .int (nI n)), (1, .int (nI k)), (2, .int (nI i))]) hx hb d_Mo_placeOf_32 rfl hl (by decide) rfl (fun ls hln => ?_)
          replace hl : lv_has ls 4 [(3, .int (nI q)), (0, .int (nI n)), (1, .int (nI k)), (2, .int (nI i))] := hln
          clear hln
          refine lv_iinc (k := 3) (v := nI (i + 1)) (lv' := [(2, .int (nI (i + 1))), (3, .int (nI q)), (0, .int (nI n)), (1, .int (nI k))]) hx hb d_Mo_placeOf_33 hl rfl (nI_1 _) (by decide) rfl (fun ls hln => ?_)
          replace hl : lv_has ls 4 [(2, .int (nI (i + 1))), (3, .int (nI q)), (0, .int (nI n)), (1, .int (nI k))] := hln
          clear hln
          refine lv_goto (tgt := 4) hx hb d_Mo_placeOf_36 (by decide) ?_
          exact hloop1_ih q (i + 1) (by first | assumption | omega | trivial | exact AllLt.zero | exact AllN.zero | exact AllM.zero | exact Or.inl rfl | exact Or.inr rfl) (by first | assumption | omega | trivial | exact AllLt.zero | exact AllN.zero | exact AllM.zero | exact Or.inl rfl | exact Or.inr rfl) _ _ ls (lv_sub hl [2, 3, 0, 1] rfl) (hP.sub [] rfl) (hD.sub [] (by decide) rfl) hS (by omega)
        · skip
          replace hb5 := cv_eq (a := bN n i) (b := 1) (by omega) (by omega) hb5
          refine lv_iload_n hx hb d_Mo_placeOf_25 rfl (lv_at hl 3 rfl) ?_
          refine lv_iconst (v := 1) hx hb d_Mo_placeOf_26 (by decide) ?_
          refine lv_isub hx hb d_Mo_placeOf_27 ?_
          refine ci_i (y := nI (q - 1)) (cv_sub (a := q) (b := 1) (by omega)) ?_
          refine lv_goto (tgt := 32) hx hb d_Mo_placeOf_28 (by decide) ?_
          refine lv_istore_n (lv' := [(3, .int (nI (q - 1))), (0, .int (nI n)), (1, .int (nI k)), (2, .int (nI i))]) hx hb d_Mo_placeOf_32 rfl hl (by decide) rfl (fun ls hln => ?_)
          replace hl : lv_has ls 4 [(3, .int (nI (q - 1))), (0, .int (nI n)), (1, .int (nI k)), (2, .int (nI i))] := hln
          clear hln
          refine lv_iinc (k := 3) (v := nI (i + 1)) (lv' := [(2, .int (nI (i + 1))), (3, .int (nI (q - 1))), (0, .int (nI n)), (1, .int (nI k))]) hx hb d_Mo_placeOf_33 hl rfl (nI_1 _) (by decide) rfl (fun ls hln => ?_)
          replace hl : lv_has ls 4 [(2, .int (nI (i + 1))), (3, .int (nI (q - 1))), (0, .int (nI n)), (1, .int (nI k))] := hln
          clear hln
          refine lv_goto (tgt := 4) hx hb d_Mo_placeOf_36 (by decide) ?_
          exact hloop1_ih (q - 1) (i + 1) (by first | assumption | omega | trivial | exact AllLt.zero | exact AllN.zero | exact AllM.zero | exact Or.inl rfl | exact Or.inr rfl) (by first | assumption | omega | trivial | exact AllLt.zero | exact AllN.zero | exact AllM.zero | exact Or.inl rfl | exact Or.inr rfl) _ _ ls (lv_sub hl [2, 3, 0, 1] rfl) (hP.sub [] rfl) (hD.sub [] (by decide) rfl) hS (by omega)
      · skip
        replace hb3 := cv_ne (a := bN n i) (b := 0) (by omega) (by omega) hb3
        refine lv_iload_n hx hb d_Mo_placeOf_12 rfl (lv_at hl 3 rfl) ?_
        refine lv_if_le (tgt := 39) hx hb d_Mo_placeOf_13 (by decide) (fun hb6 => ?_) (fun hb6 => ?_)
        · skip
          replace hb6 := cv_le (a := q) (b := 0) (by omega) (by omega) hb6
          refine lv_iload_n hx hb d_Mo_placeOf_39 rfl (lv_at hl 2 rfl) ?_
          have hP9 := hP.sub (ws' := []) [] rfl
          have hD9 := hD.sub (ws' := []) [] (by decide) rfl
          subst hQ
          exact W.iret (v := nI i) hx hb hr (fun t9 ht9 hW => ⟨⟨nI i, (), rfl, ⟨i, (by first | assumption | omega | trivial | exact AllLt.zero | exact AllN.zero | exact AllM.zero | exact Or.inl rfl | exact Or.inr rfl), rfl⟩, by rw [ht9]; exact hP9, hD9⟩, hS.F ht9⟩) hS.2.2 d_Mo_placeOf_40
        · skip
          replace hb6 := cv_nle (a := q) (b := 0) (by omega) (by omega) hb6
          refine lv_iload_n hx hb d_Mo_placeOf_16 rfl (lv_at hl 0 rfl) ?_
          refine lv_iload_n hx hb d_Mo_placeOf_17 rfl (lv_at hl 2 rfl) ?_
          refine lv_ishr hx hb d_Mo_placeOf_18 ?_
          refine lv_iconst (v := 1) hx hb d_Mo_placeOf_19 (by decide) ?_
          refine lv_iand hx hb d_Mo_placeOf_20 ?_
          refine ci_i (y := nI (bN n i)) (bN_eq n (by omega) i (by omega)) ?_
          have hbN7 := bN_le n i
          refine lv_iconst (v := 1) hx hb d_Mo_placeOf_21 (by decide) ?_
          refine lv_icmp_ne (tgt := 31) hx hb d_Mo_placeOf_22 (by decide) (fun hb8 => ?_) (fun hb8 => ?_)
          · skip
            replace hb8 := cv_ne (a := bN n i) (b := 1) (by omega) (by omega) hb8
            refine lv_iload_n hx hb d_Mo_placeOf_31 rfl (lv_at hl 3 rfl) ?_
            refine lv_istore_n (lv' := [(3, .int (nI q)), (0, .int (nI n)), (1, .int (nI k)), (2, .int (nI i))]) hx hb d_Mo_placeOf_32 rfl hl (by decide) rfl (fun ls hln => ?_)
            replace hl : lv_has ls 4 [(3, .int (nI q)), (0, .int (nI n)), (1, .int (nI k)), (2, .int (nI i))] := hln
            clear hln
            refine lv_iinc (k := 3) (v := nI (i + 1)) (lv' := [(2, .int (nI (i + 1))), (3, .int (nI q)), (0, .int (nI n)), (1, .int (nI k))]) hx hb d_Mo_placeOf_33 hl rfl (nI_1 _) (by decide) rfl (fun ls hln => ?_)
            replace hl : lv_has ls 4 [(2, .int (nI (i + 1))), (3, .int (nI q)), (0, .int (nI n)), (1, .int (nI k))] := hln
            clear hln
            refine lv_goto (tgt := 4) hx hb d_Mo_placeOf_36 (by decide) ?_
            exact hloop1_ih q (i + 1) (by first | assumption | omega | trivial | exact AllLt.zero | exact AllN.zero | exact AllM.zero | exact Or.inl rfl | exact Or.inr rfl) (by first | assumption | omega | trivial | exact AllLt.zero | exact AllN.zero | exact AllM.zero | exact Or.inl rfl | exact Or.inr rfl) _ _ ls (lv_sub hl [2, 3, 0, 1] rfl) (hP.sub [] rfl) (hD.sub [] (by decide) rfl) hS (by omega)
          · skip
            replace hb8 := cv_eq (a := bN n i) (b := 1) (by omega) (by omega) hb8
            refine lv_iload_n hx hb d_Mo_placeOf_25 rfl (lv_at hl 3 rfl) ?_
            refine lv_iconst (v := 1) hx hb d_Mo_placeOf_26 (by decide) ?_
            refine lv_isub hx hb d_Mo_placeOf_27 ?_
            refine ci_i (y := nI (q - 1)) (cv_sub (a := q) (b := 1) (by omega)) ?_
            refine lv_goto (tgt := 32) hx hb d_Mo_placeOf_28 (by decide) ?_
            refine lv_istore_n (lv' := [(3, .int (nI (q - 1))), (0, .int (nI n)), (1, .int (nI k)), (2, .int (nI i))]) hx hb d_Mo_placeOf_32 rfl hl (by decide) rfl (fun ls hln => ?_)
            replace hl : lv_has ls 4 [(3, .int (nI (q - 1))), (0, .int (nI n)), (1, .int (nI k)), (2, .int (nI i))] := hln
            clear hln
            refine lv_iinc (k := 3) (v := nI (i + 1)) (lv' := [(2, .int (nI (i + 1))), (3, .int (nI (q - 1))), (0, .int (nI n)), (1, .int (nI k))]) hx hb d_Mo_placeOf_33 hl rfl (nI_1 _) (by decide) rfl (fun ls hln => ?_)
            replace hl : lv_has ls 4 [(2, .int (nI (i + 1))), (3, .int (nI (q - 1))), (0, .int (nI n)), (1, .int (nI k))] := hln
            clear hln
            refine lv_goto (tgt := 4) hx hb d_Mo_placeOf_36 (by decide) ?_
            exact hloop1_ih (q - 1) (i + 1) (by first | assumption | omega | trivial | exact AllLt.zero | exact AllN.zero | exact AllM.zero | exact Or.inl rfl | exact Or.inr rfl) (by first | assumption | omega | trivial | exact AllLt.zero | exact AllN.zero | exact AllM.zero | exact Or.inl rfl | exact Or.inr rfl) _ _ ls (lv_sub hl [2, 3, 0, 1] rfl) (hP.sub [] rfl) (hD.sub [] (by decide) rfl) hS (by omega)
  exact hloop1 ((8 - 0) + 1) k 0 (by first | assumption | omega | trivial | exact AllLt.zero | exact AllN.zero | exact AllM.zero | exact Or.inl rfl | exact Or.inr rfl) (by first | assumption | omega | trivial | exact AllLt.zero | exact AllN.zero | exact AllM.zero | exact Or.inl rfl | exact Or.inr rfl) _ _ ls (lv_sub hl [2, 3, 1, 0] rfl) hP hD hS (Nat.lt_succ_self _)
