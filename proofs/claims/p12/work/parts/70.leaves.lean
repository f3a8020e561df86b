set_option maxHeartbeats 4000000 in
set_option maxRecDepth 100000 in
theorem e_Ig_bitCount (l : Launch) (dC : Nat → ClassId) (dI : Nat → Nat → Nat) (cI cL cZ : ClassId) (sz : Nat) (x : Int32) : Met l y_Ig_bitCount (Cond.code y_Ig_bitCount prog_15_method_49_code 1 (some .int) :: wsA) { frames := 0, cells := 0, slots := 0, locals := 0 } (va_Pc [.int x] (fun U => U.heap.size = sz ∧ va_P (dC, dI) clA [] U.heap ∧ va_K (dC, dI) clA [(cI, .int), (cL, .long), (cZ, .boolean)] U ∧ va_D (fun _ => True) [] ∧ NwA U)) (va_Qi (fun r (_ : Unit) => r = nI (pc32 x)) (fun _ t => va_P (dC, dI) clA [] t.heap ∧ va_D (va_A [] sz) []) (va_A [] sz)) 0 0 (va_A [] sz) := by
  refine Met.ofW (cc := prog_15_method_49_code) (maxL := 1) (ret := (some .int)) (by decide) rfl ?_
  intro p e s m args below meth c s₁ B hml hv
  obtain ⟨rfl, hsz, hP, hK, hD0, hN⟩ := hv
  have hx := B.exec
  have hb := B.bytes
  have hr := B.returns
  have ht : ∀ w ∈ wsA, w.before _ s = true := fun w h => atoms_spec (ws := (Cond.code y_Ig_bitCount prog_15_method_49_code 1 (some .int) :: wsA)) B.pre w (List.mem_cons_of_mem _ h)
  have hown : s.vm.findClass "java/lang/Integer" = some m.cls := findClass_of_methodNamed B.named
  have hlocks := B.notSynchronized
  subst hsz
  have hD := hD0.self (sz := s.heap.size)
  generalize hAe : va_A [] s.heap.size = A at hD ⊢
  have hA : ∀ q : Nat, s.heap.size ≤ q → A q := fun q h => by rw [← hAe]; exact Or.inr h
  have hS : va_S A s.heap s.heap [] := va_S.rf
  have hl := lv_entry ([.int x]) (n := 1) (Nat.le_of_ble_eq_true rfl)
  rw [lg_entry_eq]
  generalize (lg_sl ([.int x]) ++ List.replicate (1 - (lg_sl ([.int x])).length) Slot.unset).toArray = ls at hl ⊢
  replace hl : lv_has ls 1 [(0, .int x)] := hl
  refine W_Q (fun Q hQ => ?_)
  refine lv_iload_n hx hb d_Ig_bitCount_0 rfl (lv_at hl 0 rfl) ?_
  refine lv_iload_n hx hb d_Ig_bitCount_1 rfl (lv_at hl 0 rfl) ?_
  refine lv_iconst (v := 1) hx hb d_Ig_bitCount_2 (by decide) ?_
  refine lv_iushr (v := (Int32.toUInt32 x >>> (Int32.toUInt32 1 &&& Int32.toUInt32 31)).toInt32) hx hb d_Ig_bitCount_3 rfl ?_
  refine lv_ldcw hx hb hown (ht _ wd_2_127) d_Ig_bitCount_4 ?_
  refine lv_iand hx hb d_Ig_bitCount_7 ?_
  refine lv_isub hx hb d_Ig_bitCount_8 ?_
  refine lv_istore_n (lv' := [(0, .int (x - (((Int32.toUInt32 x >>> (Int32.toUInt32 1 &&& Int32.toUInt32 31)).toInt32) &&& 1431655765)))]) hx hb d_Ig_bitCount_9 rfl hl (by decide) rfl (fun ls hln => ?_)
  replace hl : lv_has ls 1 [(0, .int (x - (((Int32.toUInt32 x >>> (Int32.toUInt32 1 &&& Int32.toUInt32 31)).toInt32) &&& 1431655765)))] := hln
  clear hln
  refine lv_iload_n hx hb d_Ig_bitCount_10 rfl (lv_at hl 0 rfl) ?_
  refine lv_ldcw hx hb hown (ht _ wd_2_128) d_Ig_bitCount_11 ?_
  refine lv_iand hx hb d_Ig_bitCount_14 ?_
  refine lv_iload_n hx hb d_Ig_bitCount_15 rfl (lv_at hl 0 rfl) ?_
  refine lv_iconst (v := 2) hx hb d_Ig_bitCount_16 (by decide) ?_
  refine lv_iushr (v := (Int32.toUInt32 (x - (((Int32.toUInt32 x >>> (Int32.toUInt32 1 &&& Int32.toUInt32 31)).toInt32) &&& 1431655765)) >>> (Int32.toUInt32 2 &&& Int32.toUInt32 31)).toInt32) hx hb d_Ig_bitCount_17 rfl ?_
  refine lv_ldcw hx hb hown (ht _ wd_2_128) d_Ig_bitCount_18 ?_
  refine lv_iand hx hb d_Ig_bitCount_21 ?_
  refine lv_iadd hx hb d_Ig_bitCount_22 ?_
  refine lv_istore_n (lv' := [(0, .int (((x - (((Int32.toUInt32 x >>> (Int32.toUInt32 1 &&& Int32.toUInt32 31)).toInt32) &&& 1431655765)) &&& 858993459) + (((Int32.toUInt32 (x - (((Int32.toUInt32 x >>> (Int32.toUInt32 1 &&& Int32.toUInt32 31)).toInt32) &&& 1431655765)) >>> (Int32.toUInt32 2 &&& Int32.toUInt32 31)).toInt32) &&& 858993459)))]) hx hb d_Ig_bitCount_23 rfl hl (by decide) rfl (fun ls hln => ?_)
  replace hl : lv_has ls 1 [(0, .int (((x - (((Int32.toUInt32 x >>> (Int32.toUInt32 1 &&& Int32.toUInt32 31)).toInt32) &&& 1431655765)) &&& 858993459) + (((Int32.toUInt32 (x - (((Int32.toUInt32 x >>> (Int32.toUInt32 1 &&& Int32.toUInt32 31)).toInt32) &&& 1431655765)) >>> (Int32.toUInt32 2 &&& Int32.toUInt32 31)).toInt32) &&& 858993459)))] := hln
  clear hln
  refine lv_iload_n hx hb d_Ig_bitCount_24 rfl (lv_at hl 0 rfl) ?_
  refine lv_iload_n hx hb d_Ig_bitCount_25 rfl (lv_at hl 0 rfl) ?_
  refine lv_iconst (v := 4) hx hb d_Ig_bitCount_26 (by decide) ?_
  refine lv_iushr (v := (Int32.toUInt32 (((x - (((Int32.toUInt32 x >>> (Int32.toUInt32 1 &&& Int32.toUInt32 31)).toInt32) &&& 1431655765)) &&& 858993459) + (((Int32.toUInt32 (x - (((Int32.toUInt32 x >>> (Int32.toUInt32 1 &&& Int32.toUInt32 31)).toInt32) &&& 1431655765)) >>> (Int32.toUInt32 2 &&& Int32.toUInt32 31)).toInt32) &&& 858993459)) >>> (Int32.toUInt32 4 &&& Int32.toUInt32 31)).toInt32) hx hb d_Ig_bitCount_27 rfl ?_
  refine lv_iadd hx hb d_Ig_bitCount_28 ?_
  refine lv_ldcw hx hb hown (ht _ wd_2_129) d_Ig_bitCount_29 ?_
  refine lv_iand hx hb d_Ig_bitCount_32 ?_
  refine lv_istore_n (lv' := [(0, .int (((((x - (((Int32.toUInt32 x >>> (Int32.toUInt32 1 &&& Int32.toUInt32 31)).toInt32) &&& 1431655765)) &&& 858993459) + (((Int32.toUInt32 (x - (((Int32.toUInt32 x >>> (Int32.toUInt32 1 &&& Int32.toUInt32 31)).toInt32) &&& 1431655765)) >>> (Int32.toUInt32 2 &&& Int32.toUInt32 31)).toInt32) &&& 858993459)) + ((Int32.toUInt32 (((x - (((Int32.toUInt32 x >>> (Int32.toUInt32 1 &&& Int32.toUInt32 31)).toInt32) &&& 1431655765)) &&& 858993459) + (((Int32.toUInt32 (x - (((Int32.toUInt32 x >>> (Int32.toUInt32 1 &&& Int32.toUInt32 31)).toInt32) &&& 1431655765)) >>> (Int32.toUInt32 2 &&& Int32.toUInt32 31)).toInt32) &&& 858993459)) >>> (Int32.toUInt32 4 &&& Int32.toUInt32 31)).toInt32)) &&& 252645135))]) hx hb d_Ig_bitCount_33 rfl hl (by decide) rfl (fun ls hln => ?_)
  replace hl : lv_has ls 1 [(0, .int (((((x - (((Int32.toUInt32 x >>> (Int32.toUInt32 1 &&& Int32.toUInt32 31)).toInt32) &&& 1431655765)) &&& 858993459) + (((Int32.toUInt32 (x - (((Int32.toUInt32 x >>> (Int32.toUInt32 1 &&& Int32.toUInt32 31)).toInt32) &&& 1431655765)) >>> (Int32.toUInt32 2 &&& Int32.toUInt32 31)).toInt32) &&& 858993459)) + ((Int32.toUInt32 (((x - (((Int32.toUInt32 x >>> (Int32.toUInt32 1 &&& Int32.toUInt32 31)).toInt32) &&& 1431655765)) &&& 858993459) + (((Int32.toUInt32 (x - (((Int32.toUInt32 x >>> (Int32.toUInt32 1 &&& Int32.toUInt32 31)).toInt32) &&& 1431655765)) >>> (Int32.toUInt32 2 &&& Int32.toUInt32 31)).toInt32) &&& 858993459)) >>> (Int32.toUInt32 4 &&& Int32.toUInt32 31)).toInt32)) &&& 252645135))] := hln
  clear hln
  refine lv_iload_n hx hb d_Ig_bitCount_34 rfl (lv_at hl 0 rfl) ?_
  refine lv_iload_n hx hb d_Ig_bitCount_35 rfl (lv_at hl 0 rfl) ?_
  refine lv_bipush (v := 8) hx hb d_Ig_bitCount_36 (by decide) ?_
  refine lv_iushr (v := (Int32.toUInt32 (((((x - (((Int32.toUInt32 x >>> (Int32.toUInt32 1 &&& Int32.toUInt32 31)).toInt32) &&& 1431655765)) &&& 858993459) + (((Int32.toUInt32 (x - (((Int32.toUInt32 x >>> (Int32.toUInt32 1 &&& Int32.toUInt32 31)).toInt32) &&& 1431655765)) >>> (Int32.toUInt32 2 &&& Int32.toUInt32 31)).toInt32) &&& 858993459)) + ((Int32.toUInt32 (((x - (((Int32.toUInt32 x >>> (Int32.toUInt32 1 &&& Int32.toUInt32 31)).toInt32) &&& 1431655765)) &&& 858993459) + (((Int32.toUInt32 (x - (((Int32.toUInt32 x >>> (Int32.toUInt32 1 &&& Int32.toUInt32 31)).toInt32) &&& 1431655765)) >>> (Int32.toUInt32 2 &&& Int32.toUInt32 31)).toInt32) &&& 858993459)) >>> (Int32.toUInt32 4 &&& Int32.toUInt32 31)).toInt32)) &&& 252645135) >>> (Int32.toUInt32 8 &&& Int32.toUInt32 31)).toInt32) hx hb d_Ig_bitCount_38 rfl ?_
  refine lv_iadd hx hb d_Ig_bitCount_39 ?_
  refine lv_istore_n (lv' := [(0, .int ((((((x - (((Int32.toUInt32 x >>> (Int32.toUInt32 1 &&& Int32.toUInt32 31)).toInt32) &&& 1431655765)) &&& 858993459) + (((Int32.toUInt32 (x - (((Int32.toUInt32 x >>> (Int32.toUInt32 1 &&& Int32.toUInt32 31)).toInt32) &&& 1431655765)) >>> (Int32.toUInt32 2 &&& Int32.toUInt32 31)).toInt32) &&& 858993459)) + ((Int32.toUInt32 (((x - (((Int32.toUInt32 x >>> (Int32.toUInt32 1 &&& Int32.toUInt32 31)).toInt32) &&& 1431655765)) &&& 858993459) + (((Int32.toUInt32 (x - (((Int32.toUInt32 x >>> (Int32.toUInt32 1 &&& Int32.toUInt32 31)).toInt32) &&& 1431655765)) >>> (Int32.toUInt32 2 &&& Int32.toUInt32 31)).toInt32) &&& 858993459)) >>> (Int32.toUInt32 4 &&& Int32.toUInt32 31)).toInt32)) &&& 252645135) + ((Int32.toUInt32 (((((x - (((Int32.toUInt32 x >>> (Int32.toUInt32 1 &&& Int32.toUInt32 31)).toInt32) &&& 1431655765)) &&& 858993459) + (((Int32.toUInt32 (x - (((Int32.toUInt32 x >>> (Int32.toUInt32 1 &&& Int32.toUInt32 31)).toInt32) &&& 1431655765)) >>> (Int32.toUInt32 2 &&& Int32.toUInt32 31)).toInt32) &&& 858993459)) + ((Int32.toUInt32 (((x - (((Int32.toUInt32 x >>> (Int32.toUInt32 1 &&& Int32.toUInt32 31)).toInt32) &&& 1431655765)) &&& 858993459) + (((Int32.toUInt32 (x - (((Int32.toUInt32 x >>> (Int32.toUInt32 1 &&& Int32.toUInt32 31)).toInt32) &&& 1431655765)) >>> (Int32.toUInt32 2 &&& Int32.toUInt32 31)).toInt32) &&& 858993459)) >>> (Int32.toUInt32 4 &&& Int32.toUInt32 31)).toInt32)) &&& 252645135) >>> (Int32.toUInt32 8 &&& Int32.toUInt32 31)).toInt32)))]) hx hb d_Ig_bitCount_40 rfl hl (by decide) rfl (fun ls hln => ?_)
  replace hl : lv_has ls 1 [(0, .int ((((((x - (((Int32.toUInt32 x >>> (Int32.toUInt32 1 &&& Int32.toUInt32 31)).toInt32) &&& 1431655765)) &&& 858993459) + (((Int32.toUInt32 (x - (((Int32.toUInt32 x >>> (Int32.toUInt32 1 &&& Int32.toUInt32 31)).toInt32) &&& 1431655765)) >>> (Int32.toUInt32 2 &&& Int32.toUInt32 31)).toInt32) &&& 858993459)) + ((Int32.toUInt32 (((x - (((Int32.toUInt32 x >>> (Int32.toUInt32 1 &&& Int32.toUInt32 31)).toInt32) &&& 1431655765)) &&& 858993459) + (((Int32.toUInt32 (x - (((Int32.toUInt32 x >>> (Int32.toUInt32 1 &&& Int32.toUInt32 31)).toInt32) &&& 1431655765)) >>> (Int32.toUInt32 2 &&& Int32.toUInt32 31)).toInt32) &&& 858993459)) >>> (Int32.toUInt32 4 &&& Int32.toUInt32 31)).toInt32)) &&& 252645135) + ((Int32.toUInt32 (((((x - (((Int32.toUInt32 x >>> (Int32.toUInt32 1 &&& Int32.toUInt32 31)).toInt32) &&& 1431655765)) &&& 858993459) + (((Int32.toUInt32 (x - (((Int32.toUInt32 x >>> (Int32.toUInt32 1 &&& Int32.toUInt32 31)).toInt32) &&& 1431655765)) >>> (Int32.toUInt32 2 &&& Int32.toUInt32 31)).toInt32) &&& 858993459)) + ((Int32.toUInt32 (((x - (((Int32.toUInt32 x >>> (Int32.toUInt32 1 &&& Int32.toUInt32 31)).toInt32) &&& 1431655765)) &&& 858993459) + (((Int32.toUInt32 (x - (((Int32.toUInt32 x >>> (Int32.toUInt32 1 &&& Int32.toUInt32 31)).toInt32) &&& 1431655765)) >>> (Int32.toUInt32 2 &&& Int32.toUInt32 31)).toInt32) &&& 858993459)) >>> (Int32.toUInt32 4 &&& Int32.toUInt32 31)).toInt32)) &&& 252645135) >>> (Int32.toUInt32 8 &&& Int32.toUInt32 31)).toInt32)))] := hln
  clear hln
  refine lv_iload_n hx hb d_Ig_bitCount_41 rfl (lv_at hl 0 rfl) ?_
  refine lv_iload_n hx hb d_Ig_bitCount_42 rfl (lv_at hl 0 rfl) ?_
  refine lv_bipush (v := 16) hx hb d_Ig_bitCount_43 (by decide) ?_
  refine lv_iushr (v := (Int32.toUInt32 ((((((x - (((Int32.toUInt32 x >>> (Int32.toUInt32 1 &&& Int32.toUInt32 31)).toInt32) &&& 1431655765)) &&& 858993459) + (((Int32.toUInt32 (x - (((Int32.toUInt32 x >>> (Int32.toUInt32 1 &&& Int32.toUInt32 31)).toInt32) &&& 1431655765)) >>> (Int32.toUInt32 2 &&& Int32.toUInt32 31)).toInt32) &&& 858993459)) + ((Int32.toUInt32 (((x - (((Int32.toUInt32 x >>> (Int32.toUInt32 1 &&& Int32.toUInt32 31)).toInt32) &&& 1431655765)) &&& 858993459) + (((Int32.toUInt32 (x - (((Int32.toUInt32 x >>> (Int32.toUInt32 1 &&& Int32.toUInt32 31)).toInt32) &&& 1431655765)) >>> (Int32.toUInt32 2 &&& Int32.toUInt32 31)).toInt32) &&& 858993459)) >>> (Int32.toUInt32 4 &&& Int32.toUInt32 31)).toInt32)) &&& 252645135) + ((Int32.toUInt32 (((((x - (((Int32.toUInt32 x >>> (Int32.toUInt32 1 &&& Int32.toUInt32 31)).toInt32) &&& 1431655765)) &&& 858993459) + (((Int32.toUInt32 (x - (((Int32.toUInt32 x >>> (Int32.toUInt32 1 &&& Int32.toUInt32 31)).toInt32) &&& 1431655765)) >>> (Int32.toUInt32 2 &&& Int32.toUInt32 31)).toInt32) &&& 858993459)) + ((Int32.toUInt32 (((x - (((Int32.toUInt32 x >>> (Int32.toUInt32 1 &&& Int32.toUInt32 31)).toInt32) &&& 1431655765)) &&& 858993459) + (((Int32.toUInt32 (x - (((Int32.toUInt32 x >>> (Int32.toUInt32 1 &&& Int32.toUInt32 31)).toInt32) &&& 1431655765)) >>> (Int32.toUInt32 2 &&& Int32.toUInt32 31)).toInt32) &&& 858993459)) >>> (Int32.toUInt32 4 &&& Int32.toUInt32 31)).toInt32)) &&& 252645135) >>> (Int32.toUInt32 8 &&& Int32.toUInt32 31)).toInt32)) >>> (Int32.toUInt32 16 &&& Int32.toUInt32 31)).toInt32) hx hb d_Ig_bitCount_45 rfl ?_
  refine lv_iadd hx hb d_Ig_bitCount_46 ?_
  refine lv_istore_n (lv' := [(0, .int (((((((x - (((Int32.toUInt32 x >>> (Int32.toUInt32 1 &&& Int32.toUInt32 31)).toInt32) &&& 1431655765)) &&& 858993459) + (((Int32.toUInt32 (x - (((Int32.toUInt32 x >>> (Int32.toUInt32 1 &&& Int32.toUInt32 31)).toInt32) &&& 1431655765)) >>> (Int32.toUInt32 2 &&& Int32.toUInt32 31)).toInt32) &&& 858993459)) + ((Int32.toUInt32 (((x - (((Int32.toUInt32 x >>> (Int32.toUInt32 1 &&& Int32.toUInt32 31)).toInt32) &&& 1431655765)) &&& 858993459) + (((Int32.toUInt32 (x - (((Int32.toUInt32 x >>> (Int32.toUInt32 1 &&& Int32.toUInt32 31)).toInt32) &&& 1431655765)) >>> (Int32.toUInt32 2 &&& Int32.toUInt32 31)).toInt32) &&& 858993459)) >>> (Int32.toUInt32 4 &&& Int32.toUInt32 31)).toInt32)) &&& 252645135) + ((Int32.toUInt32 (((((x - (((Int32.toUInt32 x >>> (Int32.toUInt32 1 &&& Int32.toUInt32 31)).toInt32) &&& 1431655765)) &&& 858993459) + (((Int32.toUInt32 (x - (((Int32.toUInt32 x >>> (Int32.toUInt32 1 &&& Int32.toUInt32 31)).toInt32) &&& 1431655765)) >>> (Int32.toUInt32 2 &&& Int32.toUInt32 31)).toInt32) &&& 858993459)) + ((Int32.toUInt32 (((x - (((Int32.toUInt32 x >>> (Int32.toUInt32 1 &&& Int32.toUInt32 31)).toInt32) &&& 1431655765)) &&& 858993459) + (((Int32.toUInt32 (x - (((Int32.toUInt32 x >>> (Int32.toUInt32 1 &&& Int32.toUInt32 31)).toInt32) &&& 1431655765)) >>> (Int32.toUInt32 2 &&& Int32.toUInt32 31)).toInt32) &&& 858993459)) >>> (Int32.toUInt32 4 &&& Int32.toUInt32 31)).toInt32)) &&& 252645135) >>> (Int32.toUInt32 8 &&& Int32.toUInt32 31)).toInt32)) + ((Int32.toUInt32 ((((((x - (((Int32.toUInt32 x >>> (Int32.toUInt32 1 &&& Int32.toUInt32 31)).toInt32) &&& 1431655765)) &&& 858993459) + (((Int32.toUInt32 (x - (((Int32.toUInt32 x >>> (Int32.toUInt32 1 &&& Int32.toUInt32 31)).toInt32) &&& 1431655765)) >>> (Int32.toUInt32 2 &&& Int32.toUInt32 31)).toInt32) &&& 858993459)) + ((Int32.toUInt32 (((x - (((Int32.toUInt32 x >>> (Int32.toUInt32 1 &&& Int32.toUInt32 31)).toInt32) &&& 1431655765)) &&& 858993459) + (((Int32.toUInt32 (x - (((Int32.toUInt32 x >>> (Int32.toUInt32 1 &&& Int32.toUInt32 31)).toInt32) &&& 1431655765)) >>> (Int32.toUInt32 2 &&& Int32.toUInt32 31)).toInt32) &&& 858993459)) >>> (Int32.toUInt32 4 &&& Int32.toUInt32 31)).toInt32)) &&& 252645135) + ((Int32.toUInt32 (((((x - (((Int32.toUInt32 x >>> (Int32.toUInt32 1 &&& Int32.toUInt32 31)).toInt32) &&& 1431655765)) &&& 858993459) + (((Int32.toUInt32 (x - (((Int32.toUInt32 x >>> (Int32.toUInt32 1 &&& Int32.toUInt32 31)).toInt32) &&& 1431655765)) >>> (Int32.toUInt32 2 &&& Int32.toUInt32 31)).toInt32) &&& 858993459)) + ((Int32.toUInt32 (((x - (((Int32.toUInt32 x >>> (Int32.toUInt32 1 &&& Int32.toUInt32 31)).toInt32) &&& 1431655765)) &&& 858993459) + (((Int32.toUInt32 (x - (((Int32.toUInt32 x >>> (Int32.toUInt32 1 &&& Int32.toUInt32 31)).toInt32) &&& 1431655765)) >>> (Int32.toUInt32 2 &&& Int32.toUInt32 31)).toInt32) &&& 858993459)) >>> (Int32.toUInt32 4 &&& Int32.toUInt32 31)).toInt32)) &&& 252645135) >>> (Int32.toUInt32 8 &&& Int32.toUInt32 31)).toInt32)) >>> (Int32.toUInt32 16 &&& Int32.toUInt32 31)).toInt32)))]) hx hb d_Ig_bitCount_47 rfl hl (by decide) rfl (fun ls hln => ?_)
  replace hl : lv_has ls 1 [(0, .int (((((((x - (((Int32.toUInt32 x >>> (Int32.toUInt32 1 &&& Int32.toUInt32 31)).toInt32) &&& 1431655765)) &&& 858993459) + (((Int32.toUInt32 (x - (((Int32.toUInt32 x >>> (Int32.toUInt32 1 &&& Int32.toUInt32 31)).toInt32) &&& 1431655765)) >>> (Int32.toUInt32 2 &&& Int32.toUInt32 31)).toInt32) &&& 858993459)) + ((Int32.toUInt32 (((x - (((Int32.toUInt32 x >>> (Int32.toUInt32 1 &&& Int32.toUInt32 31)).toInt32) &&& 1431655765)) &&& 858993459) + (((Int32.toUInt32 (x - (((Int32.toUInt32 x >>> (Int32.toUInt32 1 &&& Int32.toUInt32 31)).toInt32) &&& 1431655765)) >>> (Int32.toUInt32 2 &&& Int32.toUInt32 31)).toInt32) &&& 858993459)) >>> (Int32.toUInt32 4 &&& Int32.toUInt32 31)).toInt32)) &&& 252645135) + ((Int32.toUInt32 (((((x - (((Int32.toUInt32 x >>> (Int32.toUInt32 1 &&& Int32.toUInt32 31)).toInt32) &&& 1431655765)) &&& 858993459) + (((Int32.toUInt32 (x - (((Int32.toUInt32 x >>> (Int32.toUInt32 1 &&& Int32.toUInt32 31)).toInt32) &&& 1431655765)) >>> (Int32.toUInt32 2 &&& Int32.toUInt32 31)).toInt32) &&& 858993459)) + ((Int32.toUInt32 (((x - (((Int32.toUInt32 x >>> (Int32.toUInt32 1 &&& Int32.toUInt32 31)).toInt32) &&& 1431655765)) &&& 858993459) + (((Int32.toUInt32 (x - (((Int32.toUInt32 x >>> (Int32.toUInt32 1 &&& Int32.toUInt32 31)).toInt32) &&& 1431655765)) >>> (Int32.toUInt32 2 &&& Int32.toUInt32 31)).toInt32) &&& 858993459)) >>> (Int32.toUInt32 4 &&& Int32.toUInt32 31)).toInt32)) &&& 252645135) >>> (Int32.toUInt32 8 &&& Int32.toUInt32 31)).toInt32)) + ((Int32.toUInt32 ((((((x - (((Int32.toUInt32 x >>> (Int32.toUInt32 1 &&& Int32.toUInt32 31)).toInt32) &&& 1431655765)) &&& 858993459) + (((Int32.toUInt32 (x - (((Int32.toUInt32 x >>> (Int32.toUInt32 1 &&& Int32.toUInt32 31)).toInt32) &&& 1431655765)) >>> (Int32.toUInt32 2 &&& Int32.toUInt32 31)).toInt32) &&& 858993459)) + ((Int32.toUInt32 (((x - (((Int32.toUInt32 x >>> (Int32.toUInt32 1 &&& Int32.toUInt32 31)).toInt32) &&& 1431655765)) &&& 858993459) + (((Int32.toUInt32 (x - (((Int32.toUInt32 x >>> (Int32.toUInt32 1 &&& Int32.toUInt32 31)).toInt32) &&& 1431655765)) >>> (Int32.toUInt32 2 &&& Int32.toUInt32 31)).toInt32) &&& 858993459)) >>> (Int32.toUInt32 4 &&& Int32.toUInt32 31)).toInt32)) &&& 252645135) + ((Int32.toUInt32 (((((x - (((Int32.toUInt32 x >>> (Int32.toUInt32 1 &&& Int32.toUInt32 31)).toInt32) &&& 1431655765)) &&& 858993459) + (((Int32.toUInt32 (x - (((Int32.toUInt32 x >>> (Int32.toUInt32 1 &&& Int32.toUInt32 31)).toInt32) &&& 1431655765)) >>> (Int32.toUInt32 2 &&& Int32.toUInt32 31)).toInt32) &&& 858993459)) + ((Int32.toUInt32 (((x - (((Int32.toUInt32 x >>> (Int32.toUInt32 1 &&& Int32.toUInt32 31)).toInt32) &&& 1431655765)) &&& 858993459) + (((Int32.toUInt32 (x - (((Int32.toUInt32 x >>> (Int32.toUInt32 1 &&& Int32.toUInt32 31)).toInt32) &&& 1431655765)) >>> (Int32.toUInt32 2 &&& Int32.toUInt32 31)).toInt32) &&& 858993459)) >>> (Int32.toUInt32 4 &&& Int32.toUInt32 31)).toInt32)) &&& 252645135) >>> (Int32.toUInt32 8 &&& Int32.toUInt32 31)).toInt32)) >>> (Int32.toUInt32 16 &&& Int32.toUInt32 31)).toInt32)))] := hln
  clear hln
  refine lv_iload_n hx hb d_Ig_bitCount_48 rfl (lv_at hl 0 rfl) ?_
  refine lv_bipush (v := 63) hx hb d_Ig_bitCount_49 (by decide) ?_
  refine lv_iand hx hb d_Ig_bitCount_51 ?_
  have hP9 := hP.sub (ws' := []) [] rfl
  have hD9 := hD.sub (ws' := []) [] (by decide) rfl
  subst hQ
  exact W.iret (v := (((((((x - (((Int32.toUInt32 x >>> (Int32.toUInt32 1 &&& Int32.toUInt32 31)).toInt32) &&& 1431655765)) &&& 858993459) + (((Int32.toUInt32 (x - (((Int32.toUInt32 x >>> (Int32.toUInt32 1 &&& Int32.toUInt32 31)).toInt32) &&& 1431655765)) >>> (Int32.toUInt32 2 &&& Int32.toUInt32 31)).toInt32) &&& 858993459)) + ((Int32.toUInt32 (((x - (((Int32.toUInt32 x >>> (Int32.toUInt32 1 &&& Int32.toUInt32 31)).toInt32) &&& 1431655765)) &&& 858993459) + (((Int32.toUInt32 (x - (((Int32.toUInt32 x >>> (Int32.toUInt32 1 &&& Int32.toUInt32 31)).toInt32) &&& 1431655765)) >>> (Int32.toUInt32 2 &&& Int32.toUInt32 31)).toInt32) &&& 858993459)) >>> (Int32.toUInt32 4 &&& Int32.toUInt32 31)).toInt32)) &&& 252645135) + ((Int32.toUInt32 (((((x - (((Int32.toUInt32 x >>> (Int32.toUInt32 1 &&& Int32.toUInt32 31)).toInt32) &&& 1431655765)) &&& 858993459) + (((Int32.toUInt32 (x - (((Int32.toUInt32 x >>> (Int32.toUInt32 1 &&& Int32.toUInt32 31)).toInt32) &&& 1431655765)) >>> (Int32.toUInt32 2 &&& Int32.toUInt32 31)).toInt32) &&& 858993459)) + ((Int32.toUInt32 (((x - (((Int32.toUInt32 x >>> (Int32.toUInt32 1 &&& Int32.toUInt32 31)).toInt32) &&& 1431655765)) &&& 858993459) + (((Int32.toUInt32 (x - (((Int32.toUInt32 x >>> (Int32.toUInt32 1 &&& Int32.toUInt32 31)).toInt32) &&& 1431655765)) >>> (Int32.toUInt32 2 &&& Int32.toUInt32 31)).toInt32) &&& 858993459)) >>> (Int32.toUInt32 4 &&& Int32.toUInt32 31)).toInt32)) &&& 252645135) >>> (Int32.toUInt32 8 &&& Int32.toUInt32 31)).toInt32)) + ((Int32.toUInt32 ((((((x - (((Int32.toUInt32 x >>> (Int32.toUInt32 1 &&& Int32.toUInt32 31)).toInt32) &&& 1431655765)) &&& 858993459) + (((Int32.toUInt32 (x - (((Int32.toUInt32 x >>> (Int32.toUInt32 1 &&& Int32.toUInt32 31)).toInt32) &&& 1431655765)) >>> (Int32.toUInt32 2 &&& Int32.toUInt32 31)).toInt32) &&& 858993459)) + ((Int32.toUInt32 (((x - (((Int32.toUInt32 x >>> (Int32.toUInt32 1 &&& Int32.toUInt32 31)).toInt32) &&& 1431655765)) &&& 858993459) + (((Int32.toUInt32 (x - (((Int32.toUInt32 x >>> (Int32.toUInt32 1 &&& Int32.toUInt32 31)).toInt32) &&& 1431655765)) >>> (Int32.toUInt32 2 &&& Int32.toUInt32 31)).toInt32) &&& 858993459)) >>> (Int32.toUInt32 4 &&& Int32.toUInt32 31)).toInt32)) &&& 252645135) + ((Int32.toUInt32 (((((x - (((Int32.toUInt32 x >>> (Int32.toUInt32 1 &&& Int32.toUInt32 31)).toInt32) &&& 1431655765)) &&& 858993459) + (((Int32.toUInt32 (x - (((Int32.toUInt32 x >>> (Int32.toUInt32 1 &&& Int32.toUInt32 31)).toInt32) &&& 1431655765)) >>> (Int32.toUInt32 2 &&& Int32.toUInt32 31)).toInt32) &&& 858993459)) + ((Int32.toUInt32 (((x - (((Int32.toUInt32 x >>> (Int32.toUInt32 1 &&& Int32.toUInt32 31)).toInt32) &&& 1431655765)) &&& 858993459) + (((Int32.toUInt32 (x - (((Int32.toUInt32 x >>> (Int32.toUInt32 1 &&& Int32.toUInt32 31)).toInt32) &&& 1431655765)) >>> (Int32.toUInt32 2 &&& Int32.toUInt32 31)).toInt32) &&& 858993459)) >>> (Int32.toUInt32 4 &&& Int32.toUInt32 31)).toInt32)) &&& 252645135) >>> (Int32.toUInt32 8 &&& Int32.toUInt32 31)).toInt32)) >>> (Int32.toUInt32 16 &&& Int32.toUInt32 31)).toInt32)) &&& 63) hx hb hr (fun t9 ht9 hW => ⟨⟨(((((((x - (((Int32.toUInt32 x >>> (Int32.toUInt32 1 &&& Int32.toUInt32 31)).toInt32) &&& 1431655765)) &&& 858993459) + (((Int32.toUInt32 (x - (((Int32.toUInt32 x >>> (Int32.toUInt32 1 &&& Int32.toUInt32 31)).toInt32) &&& 1431655765)) >>> (Int32.toUInt32 2 &&& Int32.toUInt32 31)).toInt32) &&& 858993459)) + ((Int32.toUInt32 (((x - (((Int32.toUInt32 x >>> (Int32.toUInt32 1 &&& Int32.toUInt32 31)).toInt32) &&& 1431655765)) &&& 858993459) + (((Int32.toUInt32 (x - (((Int32.toUInt32 x >>> (Int32.toUInt32 1 &&& Int32.toUInt32 31)).toInt32) &&& 1431655765)) >>> (Int32.toUInt32 2 &&& Int32.toUInt32 31)).toInt32) &&& 858993459)) >>> (Int32.toUInt32 4 &&& Int32.toUInt32 31)).toInt32)) &&& 252645135) + ((Int32.toUInt32 (((((x - (((Int32.toUInt32 x >>> (Int32.toUInt32 1 &&& Int32.toUInt32 31)).toInt32) &&& 1431655765)) &&& 858993459) + (((Int32.toUInt32 (x - (((Int32.toUInt32 x >>> (Int32.toUInt32 1 &&& Int32.toUInt32 31)).toInt32) &&& 1431655765)) >>> (Int32.toUInt32 2 &&& Int32.toUInt32 31)).toInt32) &&& 858993459)) + ((Int32.toUInt32 (((x - (((Int32.toUInt32 x >>> (Int32.toUInt32 1 &&& Int32.toUInt32 31)).toInt32) &&& 1431655765)) &&& 858993459) + (((Int32.toUInt32 (x - (((Int32.toUInt32 x >>> (Int32.toUInt32 1 &&& Int32.toUInt32 31)).toInt32) &&& 1431655765)) >>> (Int32.toUInt32 2 &&& Int32.toUInt32 31)).toInt32) &&& 858993459)) >>> (Int32.toUInt32 4 &&& Int32.toUInt32 31)).toInt32)) &&& 252645135) >>> (Int32.toUInt32 8 &&& Int32.toUInt32 31)).toInt32)) + ((Int32.toUInt32 ((((((x - (((Int32.toUInt32 x >>> (Int32.toUInt32 1 &&& Int32.toUInt32 31)).toInt32) &&& 1431655765)) &&& 858993459) + (((Int32.toUInt32 (x - (((Int32.toUInt32 x >>> (Int32.toUInt32 1 &&& Int32.toUInt32 31)).toInt32) &&& 1431655765)) >>> (Int32.toUInt32 2 &&& Int32.toUInt32 31)).toInt32) &&& 858993459)) + ((Int32.toUInt32 (((x - (((Int32.toUInt32 x >>> (Int32.toUInt32 1 &&& Int32.toUInt32 31)).toInt32) &&& 1431655765)) &&& 858993459) + (((Int32.toUInt32 (x - (((Int32.toUInt32 x >>> (Int32.toUInt32 1 &&& Int32.toUInt32 31)).toInt32) &&& 1431655765)) >>> (Int32.toUInt32 2 &&& Int32.toUInt32 31)).toInt32) &&& 858993459)) >>> (Int32.toUInt32 4 &&& Int32.toUInt32 31)).toInt32)) &&& 252645135) + ((Int32.toUInt32 (((((x - (((Int32.toUInt32 x >>> (Int32.toUInt32 1 &&& Int32.toUInt32 31)).toInt32) &&& 1431655765)) &&& 858993459) + (((Int32.toUInt32 (x - (((Int32.toUInt32 x >>> (Int32.toUInt32 1 &&& Int32.toUInt32 31)).toInt32) &&& 1431655765)) >>> (Int32.toUInt32 2 &&& Int32.toUInt32 31)).toInt32) &&& 858993459)) + ((Int32.toUInt32 (((x - (((Int32.toUInt32 x >>> (Int32.toUInt32 1 &&& Int32.toUInt32 31)).toInt32) &&& 1431655765)) &&& 858993459) + (((Int32.toUInt32 (x - (((Int32.toUInt32 x >>> (Int32.toUInt32 1 &&& Int32.toUInt32 31)).toInt32) &&& 1431655765)) >>> (Int32.toUInt32 2 &&& Int32.toUInt32 31)).toInt32) &&& 858993459)) >>> (Int32.toUInt32 4 &&& Int32.toUInt32 31)).toInt32)) &&& 252645135) >>> (Int32.toUInt32 8 &&& Int32.toUInt32 31)).toInt32)) >>> (Int32.toUInt32 16 &&& Int32.toUInt32 31)).toInt32)) &&& 63, (), rfl, (pop32 x _ _ _ _ _ rfl rfl rfl rfl rfl), by rw [ht9]; exact hP9, hD9⟩, hS.F ht9⟩) hS.2.2 d_Ig_bitCount_52

set_option maxHeartbeats 4000000 in
set_option maxRecDepth 100000 in
theorem e_Pf_allConditions (l : Launch) (dC : Nat → ClassId) (dI : Nat → Nat → Nat) (cI cL cZ : ClassId) (sz : Nat) (f0 : Nat) (f1 : Nat) (f2 : Nat) (f3 : Nat) (f4 : Nat) (f5 : Nat) (f6 : Nat) (f7 : Nat) (f8 : Nat) (f9 : Nat) (f10 : Nat) (pfc : Nat) (pfe : Nat) (pfu : Int32) (pfw : Int32) (hpc : pfc ≤ 60) : Met l y_Pf_allConditions (Cond.code y_Pf_allConditions prog_5_method_4_code 1 (some .long) :: wsA) { frames := 0, cells := 0, slots := 0, locals := 0 } (va_Pc [.ref f0] (fun U => U.heap.size = sz ∧ va_P (dC, dI) clA [(f0, .inr (2, [.int (nI pfc), .ref f1, .ref f2, .ref f3, .ref f4, .ref f5, .int (nI pfe), .ref f6, .ref f7, .ref f8, .ref f9, .ref f10, .int pfu, .int pfw]))] U.heap ∧ va_K (dC, dI) clA [(cI, .int), (cL, .long), (cZ, .boolean)] U ∧ va_D (fun _ => True) [(f0, .inr (2, [.int (nI pfc), .ref f1, .ref f2, .ref f3, .ref f4, .ref f5, .int (nI pfe), .ref f6, .ref f7, .ref f8, .ref f9, .ref f10, .int pfu, .int pfw]))] ∧ NwA U)) (va_Ql (fun r (_ : Unit) => (B64 r (fun i => i < pfc))) (fun _ t => va_P (dC, dI) clA [(f0, .inr (2, [.int (nI pfc), .ref f1, .ref f2, .ref f3, .ref f4, .ref f5, .int (nI pfe), .ref f6, .ref f7, .ref f8, .ref f9, .ref f10, .int pfu, .int pfw]))] t.heap ∧ va_D (va_A [(f0, .inr (2, [.int (nI pfc), .ref f1, .ref f2, .ref f3, .ref f4, .ref f5, .int (nI pfe), .ref f6, .ref f7, .ref f8, .ref f9, .ref f10, .int pfu, .int pfw]))] sz) [(f0, .inr (2, [.int (nI pfc), .ref f1, .ref f2, .ref f3, .ref f4, .ref f5, .int (nI pfe), .ref f6, .ref f7, .ref f8, .ref f9, .ref f10, .int pfu, .int pfw]))]) (va_A [(f0, .inr (2, [.int (nI pfc), .ref f1, .ref f2, .ref f3, .ref f4, .ref f5, .int (nI pfe), .ref f6, .ref f7, .ref f8, .ref f9, .ref f10, .int pfu, .int pfw]))] sz)) 0 0 (va_A [(f0, .inr (2, [.int (nI pfc), .ref f1, .ref f2, .ref f3, .ref f4, .ref f5, .int (nI pfe), .ref f6, .ref f7, .ref f8, .ref f9, .ref f10, .int pfu, .int pfw]))] sz) := by
  refine Met.ofW (cc := prog_5_method_4_code) (maxL := 1) (ret := (some .long)) (by decide) rfl ?_
  intro p e s m args below meth c s₁ B hml hv
  obtain ⟨rfl, hsz, hP, hK, hD0, hN⟩ := hv
  have hx := B.exec
  have hb := B.bytes
  have hr := B.returns
  have ht : ∀ w ∈ wsA, w.before _ s = true := fun w h => atoms_spec (ws := (Cond.code y_Pf_allConditions prog_5_method_4_code 1 (some .long) :: wsA)) B.pre w (List.mem_cons_of_mem _ h)
  have hown : s.vm.findClass "NetUnfolder$Prefix" = some m.cls := findClass_of_methodNamed B.named
  have hlocks := B.notSynchronized
  subst hsz
  have hD := hD0.self (sz := s.heap.size)
  generalize hAe : va_A [(f0, .inr (2, [.int (nI pfc), .ref f1, .ref f2, .ref f3, .ref f4, .ref f5, .int (nI pfe), .ref f6, .ref f7, .ref f8, .ref f9, .ref f10, .int pfu, .int pfw]))] s.heap.size = A at hD ⊢
  have hA : ∀ q : Nat, s.heap.size ≤ q → A q := fun q h => by rw [← hAe]; exact Or.inr h
  have hS : va_S A s.heap s.heap [] := va_S.rf
  have hl := lv_entry ([.ref f0]) (n := 1) (Nat.le_of_ble_eq_true rfl)
  rw [lg_entry_eq]
  generalize (lg_sl ([.ref f0]) ++ List.replicate (1 - (lg_sl ([.ref f0])).length) Slot.unset).toArray = ls at hl ⊢
  replace hl : lv_has ls 1 [(0, .ref f0)] := hl
  refine W_Q (fun Q hQ => ?_)
  refine lv_lconst (v := 1) hx hb d_Pf_allConditions_0 (by decide) ?_
  refine lv_aload_n hx hb d_Pf_allConditions_1 rfl (lv_at hl 0 rfl) ?_
  refine va_get (D := (dC, dI)) (ci := 2) (v := .int (nI pfc)) (C := "NetUnfolder$Prefix") (T := T_Pf) (N := 14) hx hb ht in_Pf hown hK hP 0 rfl rfl 0 (by decide) (ht _ wd_1_62) (fun _ h9 => h9) rfl d_Pf_allConditions_2 ?_
  refine lv_lshl (v := 1 <<< (Int32.toInt64 (nI pfc) &&& 63)) hx hb d_Pf_allConditions_5 rfl ?_
  refine lv_lconst (v := 1) hx hb d_Pf_allConditions_6 (by decide) ?_
  refine lv_lsub hx hb d_Pf_allConditions_7 ?_
  have hP9 := hP.sub (ws' := [(f0, .inr (2, [.int (nI pfc), .ref f1, .ref f2, .ref f3, .ref f4, .ref f5, .int (nI pfe), .ref f6, .ref f7, .ref f8, .ref f9, .ref f10, .int pfu, .int pfw]))]) [0] rfl
  have hD9 := hD.sub (ws' := [(f0, .inr (2, [.int (nI pfc), .ref f1, .ref f2, .ref f3, .ref f4, .ref f5, .int (nI pfe), .ref f6, .ref f7, .ref f8, .ref f9, .ref f10, .int pfu, .int pfw]))]) [0] (by decide) rfl
  subst hQ
  exact W.lret (v := (1 <<< (Int32.toInt64 (nI pfc) &&& 63)) - 1) hx hb hr (fun t9 ht9 hW => ⟨⟨(1 <<< (Int32.toInt64 (nI pfc) &&& 63)) - 1, (), rfl, (B64.ones (by omega)), by rw [ht9]; exact hP9, hD9⟩, hS.F ht9⟩) hS.2.2 d_Pf_allConditions_8

set_option maxHeartbeats 4000000 in
set_option maxRecDepth 100000 in
theorem e_Pf_causesOf (l : Launch) (dC : Nat → ClassId) (dI : Nat → Nat → Nat) (cI cL cZ : ClassId) (sz : Nat) (f0 : Nat) (f1 : Nat) (f2 : Nat) (f3 : Nat) (f4 : Nat) (f5 : Nat) (f6 : Nat) (f7 : Nat) (f8 : Nat) (f9 : Nat) (f10 : Nat) (pfc : Nat) (pfe : Nat) (pfu : Int32) (pfw : Int32) (fmk : Nat → Int32) (fca : Nat → Int32) (x : Int64) (X : Nat → Prop) (bh : Nat → Nat → Prop) (hpc : pfc ≤ 60) (hCau : CauI pfc fmk fca bh) (hXB : B64 x X) : Met l y_Pf_causesOf (Cond.code y_Pf_causesOf prog_5_method_7_code 5 (some .int) :: wsA) { frames := 1, cells := 0, slots := 0, locals := 22 } (va_Pc [.ref f0, .long x] (fun U => U.heap.size = sz ∧ va_P (dC, dI) clA [(f0, .inr (2, [.int (nI pfc), .ref f1, .ref f2, .ref f3, .ref f4, .ref f5, .int (nI pfe), .ref f6, .ref f7, .ref f8, .ref f9, .ref f10, .int pfu, .int pfw])), (f2, .inl (cI, 60, .inl fmk)), (f8, .inl (cI, 30, .inl fca))] U.heap ∧ va_K (dC, dI) clA [(cI, .int), (cL, .long), (cZ, .boolean)] U ∧ va_D (fun _ => True) [(f0, .inr (2, [.int (nI pfc), .ref f1, .ref f2, .ref f3, .ref f4, .ref f5, .int (nI pfe), .ref f6, .ref f7, .ref f8, .ref f9, .ref f10, .int pfu, .int pfw])), (f2, .inl (cI, 60, .inl fmk)), (f8, .inl (cI, 30, .inl fca))] ∧ NwA U)) (va_Qi (fun r (_ : Unit) => (B32 r (fun f => ∃ c, c < pfc ∧ (X c ∧ bh c f)))) (fun _ t => va_P (dC, dI) clA [(f0, .inr (2, [.int (nI pfc), .ref f1, .ref f2, .ref f3, .ref f4, .ref f5, .int (nI pfe), .ref f6, .ref f7, .ref f8, .ref f9, .ref f10, .int pfu, .int pfw])), (f2, .inl (cI, 60, .inl fmk)), (f8, .inl (cI, 30, .inl fca))] t.heap ∧ va_D (va_A [(f0, .inr (2, [.int (nI pfc), .ref f1, .ref f2, .ref f3, .ref f4, .ref f5, .int (nI pfe), .ref f6, .ref f7, .ref f8, .ref f9, .ref f10, .int pfu, .int pfw])), (f2, .inl (cI, 60, .inl fmk)), (f8, .inl (cI, 30, .inl fca))] sz) [(f0, .inr (2, [.int (nI pfc), .ref f1, .ref f2, .ref f3, .ref f4, .ref f5, .int (nI pfe), .ref f6, .ref f7, .ref f8, .ref f9, .ref f10, .int pfu, .int pfw])), (f2, .inl (cI, 60, .inl fmk)), (f8, .inl (cI, 30, .inl fca))]) (va_A [(f0, .inr (2, [.int (nI pfc), .ref f1, .ref f2, .ref f3, .ref f4, .ref f5, .int (nI pfe), .ref f6, .ref f7, .ref f8, .ref f9, .ref f10, .int pfu, .int pfw])), (f2, .inl (cI, 60, .inl fmk)), (f8, .inl (cI, 30, .inl fca))] sz)) 0 0 (va_A [(f0, .inr (2, [.int (nI pfc), .ref f1, .ref f2, .ref f3, .ref f4, .ref f5, .int (nI pfe), .ref f6, .ref f7, .ref f8, .ref f9, .ref f10, .int pfu, .int pfw])), (f2, .inl (cI, 60, .inl fmk)), (f8, .inl (cI, 30, .inl fca))] sz) := by
  refine Met.ofW (cc := prog_5_method_7_code) (maxL := 5) (ret := (some .int)) (by decide) rfl ?_
  intro p e s m args below meth c s₁ B hml hv
  obtain ⟨rfl, hsz, hP, hK, hD0, hN⟩ := hv
  have hx := B.exec
  have hb := B.bytes
  have hr := B.returns
  have ht : ∀ w ∈ wsA, w.before _ s = true := fun w h => atoms_spec (ws := (Cond.code y_Pf_causesOf prog_5_method_7_code 5 (some .int) :: wsA)) B.pre w (List.mem_cons_of_mem _ h)
  have hown : s.vm.findClass "NetUnfolder$Prefix" = some m.cls := findClass_of_methodNamed B.named
  have hlocks := B.notSynchronized
  subst hsz
  have hD := hD0.self (sz := s.heap.size)
  generalize hAe : va_A [(f0, .inr (2, [.int (nI pfc), .ref f1, .ref f2, .ref f3, .ref f4, .ref f5, .int (nI pfe), .ref f6, .ref f7, .ref f8, .ref f9, .ref f10, .int pfu, .int pfw])), (f2, .inl (cI, 60, .inl fmk)), (f8, .inl (cI, 30, .inl fca))] s.heap.size = A at hD ⊢
  have hA : ∀ q : Nat, s.heap.size ≤ q → A q := fun q h => by rw [← hAe]; exact Or.inr h
  have hS : va_S A s.heap s.heap [] := va_S.rf
  have hl := lv_entry ([.ref f0, .long x]) (n := 5) (Nat.le_of_ble_eq_true rfl)
  rw [lg_entry_eq]
  generalize (lg_sl ([.ref f0, .long x]) ++ List.replicate (5 - (lg_sl ([.ref f0, .long x])).length) Slot.unset).toArray = ls at hl ⊢
  replace hl : lv_has ls 5 [(0, .ref f0), (1, .long x)] := hl
  refine W_Q (fun Q hQ => ?_)
  refine lv_iconst (v := 0) hx hb d_Pf_causesOf_0 (by decide) ?_
  refine lv_istore_n (lv' := [(3, .int 0), (0, .ref f0), (1, .long x)]) hx hb d_Pf_causesOf_1 rfl hl (by decide) rfl (fun ls hln => ?_)
  replace hl : lv_has ls 5 [(3, .int 0), (0, .ref f0), (1, .long x)] := hln
  clear hln
  refine lv_iconst (v := 0) hx hb d_Pf_causesOf_2 (by decide) ?_
  refine lv_istore (lv' := [(4, .int 0), (3, .int 0), (0, .ref f0), (1, .long x)]) hx hb d_Pf_causesOf_3 hl (by decide) rfl (fun ls hln => ?_)
  replace hl : lv_has ls 5 [(4, .int 0), (3, .int 0), (0, .ref f0), (1, .long x)] := hln
  clear hln
  have hloop1 : ∀ (n5 : Nat) (v : Int32) (i : Nat) (hi : i ≤ pfc) (hv : B32 v (fun f => ∃ c, c < i ∧ (X c ∧ bh c f))) (H : Heap) (locs : List Loc) (ls : Array Slot) (hl : lv_has ls 5 [(0, .ref f0), (1, .long x), (3, .int v), (4, .int (nI i))]) (hP : va_P (dC, dI) clA [(f0, .inr (2, [.int (nI pfc), .ref f1, .ref f2, .ref f3, .ref f4, .ref f5, .int (nI pfe), .ref f6, .ref f7, .ref f8, .ref f9, .ref f10, .int pfu, .int pfw])), (f2, .inl (cI, 60, .inl fmk)), (f8, .inl (cI, 30, .inl fca))] H) (hD : va_D A [(f0, .inr (2, [.int (nI pfc), .ref f1, .ref f2, .ref f3, .ref f4, .ref f5, .int (nI pfe), .ref f6, .ref f7, .ref f8, .ref f9, .ref f10, .int pfu, .int pfw])), (f2, .inl (cI, 60, .inl fmk)), (f8, .inl (cI, 30, .inl fca))]) (hS : va_S A s.heap H locs) (hm5 : pfc - i < n5), W p l e (headSpec (Cond.code y_Pf_causesOf prog_5_method_7_code 5 (some .int) :: wsA) { frames := 1, cells := 0, slots := 0, locals := 22 }).room s m ([.ref f0, .long x] : List Value).toArray below meth c H locs 0 0 Q (F0 m 5 ls []) := by
    clear hl hP hD hS
    intro n5
    induction n5 with
    | zero => intro v i hi hv H locs ls hl hP hD hS hm; exact absurd hm (Nat.not_lt_zero _)
    | succ n5 hloop1_ih =>
      intro v i hi hv H locs ls hl hP hD hS hm5
      refine lv_iload hx hb d_Pf_causesOf_5 (lv_at hl 3 rfl) ?_
      refine lv_aload_n hx hb d_Pf_causesOf_7 rfl (lv_at hl 0 rfl) ?_
      refine va_get (D := (dC, dI)) (ci := 2) (v := .int (nI pfc)) (C := "NetUnfolder$Prefix") (T := T_Pf) (N := 14) hx hb ht in_Pf hown hK hP 0 rfl rfl 0 (by decide) (ht _ wd_1_62) (fun _ h9 => h9) rfl d_Pf_causesOf_8 ?_
      refine lv_icmp_ge (tgt := 55) hx hb d_Pf_causesOf_11 (by decide) (fun hb2 => ?_) (fun hb2 => ?_)
      · skip
        replace hb2 := cv_le (a := pfc) (b := i) (by omega) (by omega) hb2
        refine lv_iload_n hx hb d_Pf_causesOf_55 rfl (lv_at hl 2 rfl) ?_
        have hP9 := hP.sub (ws' := [(f0, .inr (2, [.int (nI pfc), .ref f1, .ref f2, .ref f3, .ref f4, .ref f5, .int (nI pfe), .ref f6, .ref f7, .ref f8, .ref f9, .ref f10, .int pfu, .int pfw])), (f2, .inl (cI, 60, .inl fmk)), (f8, .inl (cI, 30, .inl fca))]) [0, 1, 2] rfl
        have hD9 := hD.sub (ws' := [(f0, .inr (2, [.int (nI pfc), .ref f1, .ref f2, .ref f3, .ref f4, .ref f5, .int (nI pfe), .ref f6, .ref f7, .ref f8, .ref f9, .ref f10, .int pfu, .int pfw])), (f2, .inl (cI, 60, .inl fmk)), (f8, .inl (cI, 30, .inl fca))]) [0, 1, 2] (by decide) rfl
        subst hQ
        exact W.iret (v := v) hx hb hr (fun t9 ht9 hW => ⟨⟨v, (), rfl, (hv.congr (fun f => by have e9 : i = pfc := (by omega); rw [e9])), by rw [ht9]; exact hP9, hD9⟩, hS.F ht9⟩) hS.2.2 d_Pf_causesOf_56
      · skip
        replace hb2 := cv_nle (a := pfc) (b := i) (by omega) (by omega) hb2
        refine lv_lload_n hx hb d_Pf_causesOf_14 rfl (lv_at hl 1 rfl) ?_
        refine lv_iload hx hb d_Pf_causesOf_15 (lv_at hl 3 rfl) ?_
        have hPc : va_P (dC, dI) clA [] _ := pu_P (H := H)
        have hDc : va_D (fun _ => True) [] := pu_D
        have hFc := pu_free hS hA
        refine va_calli (va_runSN (As := [.long x, .int (nI i)]) (rest := []) ⟨hx, hb, hml, hown, ht⟩ (c_NU_has l dC dI cI cL cZ _ x i (by first | assumption | omega | trivial | exact AllLt.zero | exact AllN.zero | exact AllM.zero | exact Or.inl rfl | exact Or.inr rfl)) ⟨va_cnB 2 ht (goodA wd_2_102) rfl rfl rfl hN.2.2.2.2.1 (ht _ wd_1_1) (by decide +kernel) ⟨Nat.le_of_ble_eq_true rfl, Nat.le_of_ble_eq_true rfl⟩, ht _ wd_2_101, trivial⟩ ⟨fun a U g mk q => by obtain ⟨q0, q1, qP, qK, qD, qN⟩ := q; exact ⟨q0, q1, qP, va_K.moved (u := U) (U := U.calling g mk a) (Vm.Alike.refl U.vm) qK, qD, NwA.same (u := U) rfl qN⟩, fun U hU hW => ⟨rfl, by rw [hU], by rw [hU]; exact hPc, va_K.moved hW.alike hK, hDc.weaken (fun _ _ _ _ => trivial), NwA.warm hW hN⟩⟩ rfl rfl hl.1 rfl (lv_room (Nat.le_of_ble_eq_true rfl)) d_Pf_causesOf_17 ⟨Nat.le_of_ble_eq_true rfl, Nat.le_of_ble_eq_true rfl⟩) hS (fun q _ h => hFc q h) hFc (fun r5 u9 t9 H3 locs ht9 hvm hw4 hB hz1 hk1 hSn => ?_)
        replace hP : va_P (dC, dI) clA [(f0, .inr (2, [.int (nI pfc), .ref f1, .ref f2, .ref f3, .ref f4, .ref f5, .int (nI pfe), .ref f6, .ref f7, .ref f8, .ref f9, .ref f10, .int pfu, .int pfw])), (f2, .inl (cI, 60, .inl fmk)), (f8, .inl (cI, 30, .inl fca))] H3 := pu_keep hP hk1
        replace hS := hSn
        clear hSn hPc hDc hFc hk1 hz1 ht9 hvm hB
        refine W.cs (cells' := 0) (slots' := 0) rfl rfl ?_
        subst hw4
        refine lv_if_eq (tgt := 49) hx hb d_Pf_causesOf_20 (by decide) (fun hb6 => ?_) (fun hb6 => ?_)
        · skip
          refine lv_iinc (k := 3) (v := nI (i + 1)) (lv' := [(4, .int (nI (i + 1))), (0, .ref f0), (1, .long x), (3, .int v)]) hx hb d_Pf_causesOf_49 hl rfl (nI_1 _) (by decide) rfl (fun ls hln => ?_)
          replace hl : lv_has ls 5 [(4, .int (nI (i + 1))), (0, .ref f0), (1, .long x), (3, .int v)] := hln
          clear hln
          refine lv_goto (tgt := 5) hx hb d_Pf_causesOf_52 (by decide) ?_
          exact hloop1_ih v (i + 1) (by first | assumption | omega | trivial | exact AllLt.zero | exact AllN.zero | exact AllM.zero | exact Or.inl rfl | exact Or.inr rfl) (a32_skip hv (fun f q => (hXB.has.mp hb6) q.1)) _ _ ls (lv_sub hl [1, 2, 3, 0] rfl) (hP.sub [0, 1, 2] rfl) (hD.sub [0, 1, 2] (by decide) rfl) hS (by omega)
        · skip
          have hXi : X i := Classical.byContradiction (fun q => hb6 (hXB.has.mpr q))
          refine lv_aload_n hx hb d_Pf_causesOf_23 rfl (lv_at hl 0 rfl) ?_
          refine va_get (D := (dC, dI)) (ci := 2) (v := .ref f2) (C := "NetUnfolder$Prefix") (T := T_Pf) (N := 14) hx hb ht in_Pf hown hK hP 0 rfl rfl 2 (by decide) (ht _ wd_1_70) (fun _ h9 => h9) rfl d_Pf_causesOf_24 ?_
          refine lv_iload hx hb d_Pf_causesOf_27 (lv_at hl 3 rfl) ?_
          refine na_iald (k := i) hx hb hK hP 1 0 rfl rfl (by omega) (by decide) d_Pf_causesOf_29 ?_
          refine lv_iconst (v := (-1)) hx hb d_Pf_causesOf_30 (by decide) ?_
          refine lv_icmp_eq (tgt := 49) hx hb d_Pf_causesOf_31 (by decide) (fun hb7 => ?_) (fun hb7 => ?_)
          · skip
            refine lv_iinc (k := 3) (v := nI (i + 1)) (lv' := [(4, .int (nI (i + 1))), (0, .ref f0), (1, .long x), (3, .int v)]) hx hb d_Pf_causesOf_49 hl rfl (nI_1 _) (by decide) rfl (fun ls hln => ?_)
            replace hl : lv_has ls 5 [(4, .int (nI (i + 1))), (0, .ref f0), (1, .long x), (3, .int v)] := hln
            clear hln
            refine lv_goto (tgt := 5) hx hb d_Pf_causesOf_52 (by decide) ?_
            exact hloop1_ih v (i + 1) (by first | assumption | omega | trivial | exact AllLt.zero | exact AllN.zero | exact AllM.zero | exact Or.inl rfl | exact Or.inr rfl) (a32_skip hv (fun f q => hCau.no (by omega) hb7 f q.2)) _ _ ls (lv_sub hl [1, 2, 3, 0] rfl) (hP.sub [0, 1, 2] rfl) (hD.sub [0, 1, 2] (by decide) rfl) hS (by omega)
          · skip
            refine lv_iload_n hx hb d_Pf_causesOf_34 rfl (lv_at hl 2 rfl) ?_
            refine lv_aload_n hx hb d_Pf_causesOf_35 rfl (lv_at hl 0 rfl) ?_
            refine va_get (D := (dC, dI)) (ci := 2) (v := .ref f8) (C := "NetUnfolder$Prefix") (T := T_Pf) (N := 14) hx hb ht in_Pf hown hK hP 0 rfl rfl 9 (by decide) (ht _ wd_1_92) (fun _ h9 => h9) rfl d_Pf_causesOf_36 ?_
            refine lv_aload_n hx hb d_Pf_causesOf_39 rfl (lv_at hl 0 rfl) ?_
            refine va_get (D := (dC, dI)) (ci := 2) (v := .ref f2) (C := "NetUnfolder$Prefix") (T := T_Pf) (N := 14) hx hb ht in_Pf hown hK hP 0 rfl rfl 2 (by decide) (ht _ wd_1_70) (fun _ h9 => h9) rfl d_Pf_causesOf_40 ?_
            refine lv_iload hx hb d_Pf_causesOf_43 (lv_at hl 3 rfl) ?_
            refine na_iald (k := i) hx hb hK hP 1 0 rfl rfl (by omega) (by decide) d_Pf_causesOf_45 ?_
            obtain ⟨q8, q8_l, q8_e, q8_b⟩ := hCau.yes (c := i) (by omega) hb7
            refine ci_i (y := nI q8) q8_e ?_
            refine na_iald (k := q8) hx hb hK hP 2 0 rfl rfl (by omega) (by decide) d_Pf_causesOf_46 ?_
            refine lv_ior hx hb d_Pf_causesOf_47 ?_
            refine lv_istore_n (lv' := [(3, .int (v ||| (fca q8))), (0, .ref f0), (1, .long x), (4, .int (nI i))]) hx hb d_Pf_causesOf_48 rfl hl (by decide) rfl (fun ls hln => ?_)
            replace hl : lv_has ls 5 [(3, .int (v ||| (fca q8))), (0, .ref f0), (1, .long x), (4, .int (nI i))] := hln
            clear hln
            refine lv_iinc (k := 3) (v := nI (i + 1)) (lv' := [(4, .int (nI (i + 1))), (3, .int (v ||| (fca q8))), (0, .ref f0), (1, .long x)]) hx hb d_Pf_causesOf_49 hl rfl (nI_1 _) (by decide) rfl (fun ls hln => ?_)
            replace hl : lv_has ls 5 [(4, .int (nI (i + 1))), (3, .int (v ||| (fca q8))), (0, .ref f0), (1, .long x)] := hln
            clear hln
            refine lv_goto (tgt := 5) hx hb d_Pf_causesOf_52 (by decide) ?_
            exact hloop1_ih (v ||| (fca q8)) (i + 1) (by first | assumption | omega | trivial | exact AllLt.zero | exact AllN.zero | exact AllM.zero | exact Or.inl rfl | exact Or.inr rfl) (a32_or hv (q8_b.congr (fun f => ⟨fun q => ⟨hXi, q⟩, fun q => q.2⟩))) _ _ ls (lv_sub hl [2, 3, 1, 0] rfl) (hP.sub [0, 1, 2] rfl) (hD.sub [0, 1, 2] (by decide) rfl) hS (by omega)
  exact hloop1 ((pfc - 0) + 1) 0 0 (by first | assumption | omega | trivial | exact AllLt.zero | exact AllN.zero | exact AllM.zero | exact Or.inl rfl | exact Or.inr rfl) a32_0 _ _ ls (lv_sub hl [2, 3, 1, 0] rfl) hP hD hS (Nat.lt_succ_self _)

set_option maxHeartbeats 4000000 in
set_option maxRecDepth 100000 in
theorem e_Pf_besideAll (l : Launch) (dC : Nat → ClassId) (dI : Nat → Nat → Nat) (cI cL cZ : ClassId) (sz : Nat) (f0 : Nat) (f1 : Nat) (f2 : Nat) (f3 : Nat) (f4 : Nat) (f5 : Nat) (f6 : Nat) (f7 : Nat) (f8 : Nat) (f9 : Nat) (f10 : Nat) (pfc : Nat) (pfe : Nat) (pfu : Int32) (pfw : Int32) (fbs : Nat → Int64) (x : Int64) (X : Nat → Prop) (co : Nat → Nat → Prop) (hpc : pfc ≤ 60) (hBes : BesI pfc fbs co) (hXB : B64 x X) : Met l y_Pf_besideAll (Cond.code y_Pf_besideAll prog_5_method_8_code 6 (some .long) :: wsA) { frames := 1, cells := 0, slots := 0, locals := 22 } (va_Pc [.ref f0, .long x] (fun U => U.heap.size = sz ∧ va_P (dC, dI) clA [(f0, .inr (2, [.int (nI pfc), .ref f1, .ref f2, .ref f3, .ref f4, .ref f5, .int (nI pfe), .ref f6, .ref f7, .ref f8, .ref f9, .ref f10, .int pfu, .int pfw])), (f4, .inl (cL, 60, .inr (.inl fbs)))] U.heap ∧ va_K (dC, dI) clA [(cI, .int), (cL, .long), (cZ, .boolean)] U ∧ va_D (fun _ => True) [(f0, .inr (2, [.int (nI pfc), .ref f1, .ref f2, .ref f3, .ref f4, .ref f5, .int (nI pfe), .ref f6, .ref f7, .ref f8, .ref f9, .ref f10, .int pfu, .int pfw])), (f4, .inl (cL, 60, .inr (.inl fbs)))] ∧ NwA U)) (va_Ql (fun r (_ : Unit) => (B64 r (fun f => f < pfc ∧ ∀ c, c < pfc → (X c → co c f)))) (fun _ t => va_P (dC, dI) clA [(f0, .inr (2, [.int (nI pfc), .ref f1, .ref f2, .ref f3, .ref f4, .ref f5, .int (nI pfe), .ref f6, .ref f7, .ref f8, .ref f9, .ref f10, .int pfu, .int pfw])), (f4, .inl (cL, 60, .inr (.inl fbs)))] t.heap ∧ va_D (va_A [(f0, .inr (2, [.int (nI pfc), .ref f1, .ref f2, .ref f3, .ref f4, .ref f5, .int (nI pfe), .ref f6, .ref f7, .ref f8, .ref f9, .ref f10, .int pfu, .int pfw])), (f4, .inl (cL, 60, .inr (.inl fbs)))] sz) [(f0, .inr (2, [.int (nI pfc), .ref f1, .ref f2, .ref f3, .ref f4, .ref f5, .int (nI pfe), .ref f6, .ref f7, .ref f8, .ref f9, .ref f10, .int pfu, .int pfw])), (f4, .inl (cL, 60, .inr (.inl fbs)))]) (va_A [(f0, .inr (2, [.int (nI pfc), .ref f1, .ref f2, .ref f3, .ref f4, .ref f5, .int (nI pfe), .ref f6, .ref f7, .ref f8, .ref f9, .ref f10, .int pfu, .int pfw])), (f4, .inl (cL, 60, .inr (.inl fbs)))] sz)) 0 0 (va_A [(f0, .inr (2, [.int (nI pfc), .ref f1, .ref f2, .ref f3, .ref f4, .ref f5, .int (nI pfe), .ref f6, .ref f7, .ref f8, .ref f9, .ref f10, .int pfu, .int pfw])), (f4, .inl (cL, 60, .inr (.inl fbs)))] sz) := by
  refine Met.ofW (cc := prog_5_method_8_code) (maxL := 6) (ret := (some .long)) (by decide) rfl ?_
  intro p e s m args below meth c s₁ B hml hv
  obtain ⟨rfl, hsz, hP, hK, hD0, hN⟩ := hv
  have hx := B.exec
  have hb := B.bytes
  have hr := B.returns
  have ht : ∀ w ∈ wsA, w.before _ s = true := fun w h => atoms_spec (ws := (Cond.code y_Pf_besideAll prog_5_method_8_code 6 (some .long) :: wsA)) B.pre w (List.mem_cons_of_mem _ h)
  have hown : s.vm.findClass "NetUnfolder$Prefix" = some m.cls := findClass_of_methodNamed B.named
  have hlocks := B.notSynchronized
  subst hsz
  have hD := hD0.self (sz := s.heap.size)
  generalize hAe : va_A [(f0, .inr (2, [.int (nI pfc), .ref f1, .ref f2, .ref f3, .ref f4, .ref f5, .int (nI pfe), .ref f6, .ref f7, .ref f8, .ref f9, .ref f10, .int pfu, .int pfw])), (f4, .inl (cL, 60, .inr (.inl fbs)))] s.heap.size = A at hD ⊢
  have hA : ∀ q : Nat, s.heap.size ≤ q → A q := fun q h => by rw [← hAe]; exact Or.inr h
  have hS : va_S A s.heap s.heap [] := va_S.rf
  have hl := lv_entry ([.ref f0, .long x]) (n := 6) (Nat.le_of_ble_eq_true rfl)
  rw [lg_entry_eq]
  generalize (lg_sl ([.ref f0, .long x]) ++ List.replicate (6 - (lg_sl ([.ref f0, .long x])).length) Slot.unset).toArray = ls at hl ⊢
  replace hl : lv_has ls 6 [(0, .ref f0), (1, .long x)] := hl
  refine W_Q (fun Q hQ => ?_)
  refine lv_aload_n hx hb d_Pf_besideAll_0 rfl (lv_at hl 0 rfl) ?_
  have hPc := hP.sub (ws' := [(f0, .inr (2, [.int (nI pfc), .ref f1, .ref f2, .ref f3, .ref f4, .ref f5, .int (nI pfe), .ref f6, .ref f7, .ref f8, .ref f9, .ref f10, .int pfu, .int pfw]))]) [0] rfl
  have hDc := hD.sub (ws' := [(f0, .inr (2, [.int (nI pfc), .ref f1, .ref f2, .ref f3, .ref f4, .ref f5, .int (nI pfe), .ref f6, .ref f7, .ref f8, .ref f9, .ref f10, .int pfu, .int pfw]))]) [0] (by decide) rfl
  have hFc := va_free (wc := [(f0, .inr (2, [.int (nI pfc), .ref f1, .ref f2, .ref f3, .ref f4, .ref f5, .int (nI pfe), .ref f6, .ref f7, .ref f8, .ref f9, .ref f10, .int pfu, .int pfw]))]) hD hS hA [0] rfl
  refine va_calll (va_runV (C := "NetUnfolder$Prefix") (As := []) (rest := []) ⟨hx, hb, hml, hown, ht⟩ (e_Pf_allConditions l dC dI cI cL cZ _ f0 f1 f2 f3 f4 f5 f6 f7 f8 f9 f10 pfc pfe pfu pfw (by first | assumption | omega | trivial | exact AllLt.zero | exact AllN.zero | exact AllM.zero | exact Or.inl rfl | exact Or.inr rfl)) (cwV 0 ht (good_V wd_2_96 wd_2_97 wd_2_98 wd_1_3 wd_2_99) rfl rfl rfl (by decide +kernel) ⟨Nat.le_of_ble_eq_true rfl, Nat.le_of_ble_eq_true rfl⟩) ⟨fun a U g mk q => by obtain ⟨q0, q1, qP, qK, qD, qN⟩ := q; exact ⟨q0, q1, qP, va_K.moved (u := U) (U := U.calling g mk a) (Vm.Alike.refl U.vm) qK, qD, NwA.same (u := U) rfl qN⟩, (va_recv (q0 := 0) (ci := 2) hK hP rfl rfl), fun U hU hW => ⟨rfl, by rw [hU], by rw [hU]; exact hPc, va_K.moved hW.alike hK, hDc.weaken (fun _ _ _ _ => trivial), NwA.warm hW hN⟩⟩ rfl rfl hl.1 rfl (lv_room (Nat.le_of_ble_eq_true rfl)) d_Pf_besideAll_1 ⟨Nat.le_of_ble_eq_true rfl, Nat.le_of_ble_eq_true rfl⟩) hS (fun q _ h => hFc q h) hFc (fun r3 u9 t9 H1 locs ht9 hvm hw2 hB hz1 hk1 hSn => ?_)
  obtain ⟨hP1, hD1⟩ := hB
  rw [ht9] at hP1
  obtain ⟨hPn, hDn⟩ := va_join (wr := [(f4, .inl (cL, 60, .inr (.inl fbs)))]) (w1 := [(f0, .inr (2, [.int (nI pfc), .ref f1, .ref f2, .ref f3, .ref f4, .ref f5, .int (nI pfe), .ref f6, .ref f7, .ref f8, .ref f9, .ref f10, .int pfu, .int pfw]))]) hP hD [0] [1] rfl rfl (by decide) (by decide) hk1 hFc hP1 hD1
  replace hP : va_P (dC, dI) clA [(f4, .inl (cL, 60, .inr (.inl fbs))), (f0, .inr (2, [.int (nI pfc), .ref f1, .ref f2, .ref f3, .ref f4, .ref f5, .int (nI pfe), .ref f6, .ref f7, .ref f8, .ref f9, .ref f10, .int pfu, .int pfw]))] H1 := hPn
  replace hD : va_D A [(f4, .inl (cL, 60, .inr (.inl fbs))), (f0, .inr (2, [.int (nI pfc), .ref f1, .ref f2, .ref f3, .ref f4, .ref f5, .int (nI pfe), .ref f6, .ref f7, .ref f8, .ref f9, .ref f10, .int pfu, .int pfw]))] := hDn
  replace hS := hSn
  clear hPn hDn hSn
  clear hPc hDc hFc hP1 hD1 hk1 hz1 ht9 hvm
  refine W.cs (cells' := 0) (slots' := 0) rfl rfl ?_
  have hr4 := hw2
  refine lv_lstore_n (lv' := [(3, .long r3), (0, .ref f0), (1, .long x)]) hx hb d_Pf_besideAll_4 rfl hl (by decide) rfl (fun ls hln => ?_)
  replace hl : lv_has ls 6 [(3, .long r3), (0, .ref f0), (1, .long x)] := hln
  clear hln
  refine lv_iconst (v := 0) hx hb d_Pf_besideAll_5 (by decide) ?_
  refine lv_istore (lv' := [(5, .int 0), (3, .long r3), (0, .ref f0), (1, .long x)]) hx hb d_Pf_besideAll_6 hl (by decide) rfl (fun ls hln => ?_)
  replace hl : lv_has ls 6 [(5, .int 0), (3, .long r3), (0, .ref f0), (1, .long x)] := hln
  clear hln
  have hloop5 : ∀ (n8 : Nat) (v : Int64) (i : Nat) (hi : i ≤ pfc) (hv : B64 v (fun f => f < pfc ∧ ∀ c, c < i → (X c → co c f))) (H : Heap) (locs : List Loc) (ls : Array Slot) (hl : lv_has ls 6 [(0, .ref f0), (1, .long x), (3, .long v), (5, .int (nI i))]) (hP : va_P (dC, dI) clA [(f4, .inl (cL, 60, .inr (.inl fbs))), (f0, .inr (2, [.int (nI pfc), .ref f1, .ref f2, .ref f3, .ref f4, .ref f5, .int (nI pfe), .ref f6, .ref f7, .ref f8, .ref f9, .ref f10, .int pfu, .int pfw]))] H) (hD : va_D A [(f4, .inl (cL, 60, .inr (.inl fbs))), (f0, .inr (2, [.int (nI pfc), .ref f1, .ref f2, .ref f3, .ref f4, .ref f5, .int (nI pfe), .ref f6, .ref f7, .ref f8, .ref f9, .ref f10, .int pfu, .int pfw]))]) (hS : va_S A s.heap H locs) (hm8 : pfc - i < n8), W p l e (headSpec (Cond.code y_Pf_besideAll prog_5_method_8_code 6 (some .long) :: wsA) { frames := 1, cells := 0, slots := 0, locals := 22 }).room s m ([.ref f0, .long x] : List Value).toArray below meth c H locs 0 0 Q (F0 m 8 ls []) := by
    clear hl hP hD hS
    intro n8
    induction n8 with
    | zero => intro v i hi hv H locs ls hl hP hD hS hm; exact absurd hm (Nat.not_lt_zero _)
    | succ n8 hloop5_ih =>
      intro v i hi hv H locs ls hl hP hD hS hm8
      refine lv_iload hx hb d_Pf_besideAll_8 (lv_at hl 3 rfl) ?_
      refine lv_aload_n hx hb d_Pf_besideAll_10 rfl (lv_at hl 0 rfl) ?_
      refine va_get (D := (dC, dI)) (ci := 2) (v := .int (nI pfc)) (C := "NetUnfolder$Prefix") (T := T_Pf) (N := 14) hx hb ht in_Pf hown hK hP 1 rfl rfl 0 (by decide) (ht _ wd_1_62) (fun _ h9 => h9) rfl d_Pf_besideAll_11 ?_
      refine lv_icmp_ge (tgt := 42) hx hb d_Pf_besideAll_14 (by decide) (fun hb6 => ?_) (fun hb6 => ?_)
      · skip
        replace hb6 := cv_le (a := pfc) (b := i) (by omega) (by omega) hb6
        refine lv_lload_n hx hb d_Pf_besideAll_42 rfl (lv_at hl 2 rfl) ?_
        have hP9 := hP.sub (ws' := [(f0, .inr (2, [.int (nI pfc), .ref f1, .ref f2, .ref f3, .ref f4, .ref f5, .int (nI pfe), .ref f6, .ref f7, .ref f8, .ref f9, .ref f10, .int pfu, .int pfw])), (f4, .inl (cL, 60, .inr (.inl fbs)))]) [1, 0] rfl
        have hD9 := hD.sub (ws' := [(f0, .inr (2, [.int (nI pfc), .ref f1, .ref f2, .ref f3, .ref f4, .ref f5, .int (nI pfe), .ref f6, .ref f7, .ref f8, .ref f9, .ref f10, .int pfu, .int pfw])), (f4, .inl (cL, 60, .inr (.inl fbs)))]) [1, 0] (by decide) rfl
        subst hQ
        exact W.lret (v := v) hx hb hr (fun t9 ht9 hW => ⟨⟨v, (), rfl, (hv.congr (fun f => by have e9 : i = pfc := (by omega); rw [e9])), by rw [ht9]; exact hP9, hD9⟩, hS.F ht9⟩) hS.2.2 d_Pf_besideAll_43
      · skip
        replace hb6 := cv_nle (a := pfc) (b := i) (by omega) (by omega) hb6
        refine lv_lload_n hx hb d_Pf_besideAll_17 rfl (lv_at hl 1 rfl) ?_
        refine lv_iload hx hb d_Pf_besideAll_18 (lv_at hl 3 rfl) ?_
        have hPc : va_P (dC, dI) clA [] _ := pu_P (H := H)
        have hDc : va_D (fun _ => True) [] := pu_D
        have hFc := pu_free hS hA
        refine va_calli (va_runSN (As := [.long x, .int (nI i)]) (rest := []) ⟨hx, hb, hml, hown, ht⟩ (c_NU_has l dC dI cI cL cZ _ x i (by first | assumption | omega | trivial | exact AllLt.zero | exact AllN.zero | exact AllM.zero | exact Or.inl rfl | exact Or.inr rfl)) ⟨va_cnB 2 ht (goodA wd_2_102) rfl rfl rfl hN.2.2.2.2.1 (ht _ wd_1_1) (by decide +kernel) ⟨Nat.le_of_ble_eq_true rfl, Nat.le_of_ble_eq_true rfl⟩, ht _ wd_2_101, trivial⟩ ⟨fun a U g mk q => by obtain ⟨q0, q1, qP, qK, qD, qN⟩ := q; exact ⟨q0, q1, qP, va_K.moved (u := U) (U := U.calling g mk a) (Vm.Alike.refl U.vm) qK, qD, NwA.same (u := U) rfl qN⟩, fun U hU hW => ⟨rfl, by rw [hU], by rw [hU]; exact hPc, va_K.moved hW.alike hK, hDc.weaken (fun _ _ _ _ => trivial), NwA.warm hW hN⟩⟩ rfl rfl hl.1 rfl (lv_room (Nat.le_of_ble_eq_true rfl)) d_Pf_besideAll_20 ⟨Nat.le_of_ble_eq_true rfl, Nat.le_of_ble_eq_true rfl⟩) hS (fun q _ h => hFc q h) hFc (fun r9 u9 t9 H7 locs ht9 hvm hw8 hB hz1 hk1 hSn => ?_)
        replace hP : va_P (dC, dI) clA [(f4, .inl (cL, 60, .inr (.inl fbs))), (f0, .inr (2, [.int (nI pfc), .ref f1, .ref f2, .ref f3, .ref f4, .ref f5, .int (nI pfe), .ref f6, .ref f7, .ref f8, .ref f9, .ref f10, .int pfu, .int pfw]))] H7 := pu_keep hP hk1
        replace hS := hSn
        clear hSn hPc hDc hFc hk1 hz1 ht9 hvm hB
        refine W.cs (cells' := 0) (slots' := 0) rfl rfl ?_
        subst hw8
        refine lv_if_eq (tgt := 36) hx hb d_Pf_besideAll_23 (by decide) (fun hb10 => ?_) (fun hb10 => ?_)
        · skip
          refine lv_iinc (k := 3) (v := nI (i + 1)) (lv' := [(5, .int (nI (i + 1))), (0, .ref f0), (1, .long x), (3, .long v)]) hx hb d_Pf_besideAll_36 hl rfl (nI_1 _) (by decide) rfl (fun ls hln => ?_)
          replace hl : lv_has ls 6 [(5, .int (nI (i + 1))), (0, .ref f0), (1, .long x), (3, .long v)] := hln
          clear hln
          refine lv_goto (tgt := 8) hx hb d_Pf_besideAll_39 (by decide) ?_
          exact hloop5_ih v (i + 1) (by first | assumption | omega | trivial | exact AllLt.zero | exact AllN.zero | exact AllM.zero | exact Or.inl rfl | exact Or.inr rfl) (l64_skip hv (fun f q => absurd q (hXB.has.mp hb10))) _ _ ls (lv_sub hl [1, 2, 3, 0] rfl) (hP.sub [0, 1] rfl) (hD.sub [0, 1] (by decide) rfl) hS (by omega)
        · skip
          have hXi : X i := Classical.byContradiction (fun q => hb10 (hXB.has.mpr q))
          refine lv_lload_n hx hb d_Pf_besideAll_26 rfl (lv_at hl 2 rfl) ?_
          refine lv_aload_n hx hb d_Pf_besideAll_27 rfl (lv_at hl 0 rfl) ?_
          refine va_get (D := (dC, dI)) (ci := 2) (v := .ref f4) (C := "NetUnfolder$Prefix") (T := T_Pf) (N := 14) hx hb ht in_Pf hown hK hP 1 rfl rfl 4 (by decide) (ht _ wd_1_76) (fun _ h9 => h9) rfl d_Pf_besideAll_28 ?_
          refine lv_iload hx hb d_Pf_besideAll_31 (lv_at hl 3 rfl) ?_
          refine na_lald (k := i) hx hb hK hP 0 1 rfl rfl (by omega) (by decide) d_Pf_besideAll_33 ?_
          refine lv_land hx hb d_Pf_besideAll_34 ?_
          refine lv_lstore_n (lv' := [(3, .long (v &&& (fbs i))), (0, .ref f0), (1, .long x), (5, .int (nI i))]) hx hb d_Pf_besideAll_35 rfl hl (by decide) rfl (fun ls hln => ?_)
          replace hl : lv_has ls 6 [(3, .long (v &&& (fbs i))), (0, .ref f0), (1, .long x), (5, .int (nI i))] := hln
          clear hln
          refine lv_iinc (k := 3) (v := nI (i + 1)) (lv' := [(5, .int (nI (i + 1))), (3, .long (v &&& (fbs i))), (0, .ref f0), (1, .long x)]) hx hb d_Pf_besideAll_36 hl rfl (nI_1 _) (by decide) rfl (fun ls hln => ?_)
          replace hl : lv_has ls 6 [(5, .int (nI (i + 1))), (3, .long (v &&& (fbs i))), (0, .ref f0), (1, .long x)] := hln
          clear hln
          refine lv_goto (tgt := 8) hx hb d_Pf_besideAll_39 (by decide) ?_
          exact hloop5_ih (v &&& (fbs i)) (i + 1) (by first | assumption | omega | trivial | exact AllLt.zero | exact AllN.zero | exact AllM.zero | exact Or.inl rfl | exact Or.inr rfl) (l64_and hv ((hBes i (by omega)).congr (fun f => ⟨fun q _ => q, fun q => q hXi⟩))) _ _ ls (lv_sub hl [2, 3, 1, 0] rfl) (hP.sub [0, 1] rfl) (hD.sub [0, 1] (by decide) rfl) hS (by omega)
  exact hloop5 ((pfc - 0) + 1) r3 0 (by first | assumption | omega | trivial | exact AllLt.zero | exact AllN.zero | exact AllM.zero | exact Or.inl rfl | exact Or.inr rfl) (l64_0 hr4) _ _ ls (lv_sub hl [2, 3, 1, 0] rfl) hP hD hS (Nat.lt_succ_self _)
