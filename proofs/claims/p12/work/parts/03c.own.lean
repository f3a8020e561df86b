/-! What 'throw new X()' asks of the state: words of the tables, two statics of Throwable. -/
def Stz (C n d : String) (A : Nat → Prop) (U : State) (H : Heap) : Prop := ∃ (c : ClassId) (k : Class) (i : Nat) (f : Field) (a : Nat) (cell : Cell) (v : Value), U.vm.findClass C = some c ∧ U.fieldFound? C n d = some (c, k, i, f) ∧ f.isStatic = true ∧ k.statics = some a ∧ H[a]? = some cell ∧ cell.vm.isStatics = true ∧ cell.cls = c ∧ f.slot < cell.slots.size ∧ k.staticTypes[f.slot]? = some f.type ∧ cell.slots[f.slot]? = some v ∧ v.isRef = true ∧ ¬ A a
theorem Stz.moved {C n d : String} {A : Nat → Prop} {u U : State} {H : Heap} (hvm : u.vm.Alike U.vm) (h : Stz C n d A u H) : Stz C n d A U H := by
  obtain ⟨c, k, i, f, a, cell, v, h1, h2, h3, h4, h5, h6, h7, h8, h9, h10⟩ := h
  obtain ⟨k', hi', he⟩ := State.fieldFound?_setVm hvm h2
  exact ⟨c, k', i, f, a, cell, v, by rw [hvm.findClass]; exact h1, hi', h3, by rw [he]; exact h4, h5, h6, h7, h8, by rw [he]; exact h9, h10⟩
theorem Stz.kept {C n d : String} {A : Nat → Prop} {U : State} {H H1 : Heap} (h : Stz C n d A U H) (hq : ∀ a : Nat, a < H.size → ¬ A a → H1[a]? = H[a]?) : Stz C n d A U H1 := by
  obtain ⟨c, k, i, f, a, cell, v, h1, h2, h3, h4, h5, h6, h7, h8, h9, h10, h11, h12⟩ := h
  exact ⟨c, k, i, f, a, cell, v, h1, h2, h3, h4, by rw [hq a (Array.getElem?_eq_some_iff.mp h5).1 h12]; exact h5, h6, h7, h8, h9, h10, h11, h12⟩
theorem Stz.narrow {C n d : String} {A B : Nat → Prop} {U : State} {H : Heap} (h : Stz C n d A U H) (hAB : ∀ q, B q → A q) : Stz C n d B U H := by
  obtain ⟨c, k, i, f, a, cell, v, h1, h2, h3, h4, h5, h6, h7, h8, h9, h10, h11, h12⟩ := h
  exact ⟨c, k, i, f, a, cell, v, h1, h2, h3, h4, h5, h6, h7, h8, h9, h10, h11, fun z => h12 (hAB a z)⟩
theorem Stz.lays {C n d : String} {A : Nat → Prop} {s : State} {args : Array Value} (h : Stz C n d A s s.heap) : (Cond.laysStatic C n d).before args s = true := by
  obtain ⟨c, k, i, f, a, cell, v, h1, h2, h3, h4, h5, h6, h7, h8, h9, -⟩ := h
  simp [Cond.before, Cond.holds, Cond.value, h1, h2, h3, h4, h5, h6, h7, h8, h9]
theorem Stz.isRef {C n d : String} {A : Nat → Prop} {s : State} {args : Array Value} (h : Stz C n d A s s.heap) : (Cond.isRef (.static C n d)).before args s = true := by
  obtain ⟨c, k, i, f, a, cell, v, h1, h2, h3, h4, h5, h6, h7, h8, h9, h10, h11, -⟩ := h
  cases v <;> simp [Value.isRef] at h11 <;> simp [Cond.before, Cond.holds, Cond.value, Term.eval, State.fieldNamed?, h2, h3, h4, h5, h6, h10]
theorem Stz.of {C n d : String} {A : Nat → Prop} {s : State} {args : Array Value} (hl : (Cond.laysStatic C n d).before args s = true) (hr : (Cond.isRef (.static C n d)).before args s = true) (hA : ∀ a : Nat, a < s.heap.size → ¬ A a) : Stz C n d A s s.heap := by
  obtain ⟨c, k, i, f, a, cell, hc, hi, hst, ha, hcell, hs, hcls, hlt, hty⟩ := Cond.laysStatic_spec hl
  obtain ⟨u, hu⟩ := Cond.staticRefV (args := args) (first := s) (o := none) (idx := []) hi hst ha hcell hs hr
  exact ⟨c, k, i, f, a, cell, u.v, hc, hi, hst, ha, hcell, hs, hcls, hlt, hty, hu, u.2, hA a (Array.getElem?_eq_some_iff.mp hcell).1⟩
def faceW (w : Cond) : Bool := w.faceAtom && w.onTables
def xsA : List Cond := lw_tbl.filter faceW
theorem xs_warm {w : Cond} (hw : w ∈ xsA) {s U : State} (hW : s.WarmedH U.vm) (h : va_Nw w s) : va_Nw w U := by
  have hf := (List.mem_filter.mp hw).2
  simp only [faceW, Bool.and_eq_true] at hf
  exact va_tabs hf.2 (rfl : (s.setVm U.vm).vm = U.vm) (Cond.faceAtom_setVm (args := #[]) hW.alike w hf.1 h)
/-- what a throw needs of the state -/
def ThA (A : Nat → Prop) (U : State) (H : Heap) : Prop := Stz "java/lang/Throwable" "UNASSIGNED_STACK" "[Ljava/lang/StackTraceElement;" A U H ∧ Stz "java/lang/Throwable" "SUPPRESSED_SENTINEL" "Ljava/util/List;" A U H ∧ (∀ w ∈ xsA, va_Nw w U) ∧ va_Nc "java/lang/IllegalStateException" "java/lang/IllegalArgumentException" U
theorem ThA.warm {A : Nat → Prop} {s U : State} {H : Heap} (hW : s.WarmedH U.vm) (h : ThA A s H) : ThA A U H := ⟨h.1.moved hW.alike, h.2.1.moved hW.alike, fun w hw => xs_warm hw hW (h.2.2.1 w hw), va_Nc.moved hW.alike h.2.2.2⟩
theorem ThA.kept {A : Nat → Prop} {U : State} {H H1 : Heap} (h : ThA A U H) (hq : ∀ a : Nat, a < H.size → ¬ A a → H1[a]? = H[a]?) : ThA A U H1 := ⟨h.1.kept hq, h.2.1.kept hq, h.2.2⟩
theorem ThA.narrow {A B : Nat → Prop} {U : State} {H : Heap} (h : ThA A U H) (hAB : ∀ q, B q → A q) : ThA B U H := ⟨h.1.narrow hAB, h.2.1.narrow hAB, h.2.2⟩
theorem ThA.same {A : Nat → Prop} {u U : State} {H : Heap} (hv : u.vm = U.vm) (h : ThA A u H) : ThA A U H := ⟨h.1.moved (by rw [hv]; exact Vm.Alike.refl _), h.2.1.moved (by rw [hv]; exact Vm.Alike.refl _), fun w hw => va_Nw.same (by have := (List.mem_filter.mp hw).2; simp only [faceW, Bool.and_eq_true] at this; exact this.2) hv (h.2.2.1 w hw), va_Nc.moved (by rw [hv]; exact Vm.Alike.refl _) h.2.2.2⟩
def own_ok (a : Cond) : Prop := a ∈ wsA ∨ a ∈ xsA ∨ a = Cond.laysStatic "java/lang/Throwable" "UNASSIGNED_STACK" "[Ljava/lang/StackTraceElement;" ∨ a = Cond.laysStatic "java/lang/Throwable" "SUPPRESSED_SENTINEL" "Ljava/util/List;" ∨ a = Cond.isRef (.static "java/lang/Throwable" "UNASSIGNED_STACK" "[Ljava/lang/StackTraceElement;") ∨ a = Cond.isRef (.static "java/lang/Throwable" "SUPPRESSED_SENTINEL" "Ljava/util/List;")
theorem own_before {a : Cond} {A : Nat → Prop} {s : State} {args : Array Value} (h : own_ok a) (ht : ∀ w ∈ wsA, w.before args s = true) (hT : ThA A s s.heap) : a.before args s = true := by
  rcases h with h | h | rfl | rfl | rfl | rfl
  · exact ht a h
  · exact va_Nw.use (by have := (List.mem_filter.mp h).2; simp only [faceW, Bool.and_eq_true] at this; exact this.2) (hT.2.2.1 a h)
  · exact hT.1.lays
  · exact hT.2.1.lays
  · exact hT.1.isRef
  · exact hT.2.1.isRef
set_option maxRecDepth 100000 in
set_option maxHeartbeats 4000000 in
theorem oa_IAE : ∀ a ∈ Bundle.ownAtoms0 "NetUnfolder" 52 "java/lang/IllegalArgumentException" ["java/lang/RuntimeException", "java/lang/Exception"], own_ok a := by unfold own_ok; decide +kernel
set_option maxRecDepth 100000 in
set_option maxHeartbeats 4000000 in
theorem oa_ISE : ∀ a ∈ Bundle.ownAtoms0 "NetUnfolder" 59 "java/lang/IllegalStateException" ["java/lang/RuntimeException", "java/lang/Exception"], own_ok a := by unfold own_ok; decide +kernel
theorem xc_IAE : Cond.castable "java/lang/IllegalArgumentException" "java/lang/IllegalArgumentException" ∈ xsA := by decide +kernel
theorem xc_ISE : Cond.castable "java/lang/IllegalStateException" "java/lang/IllegalStateException" ∈ xsA := by decide +kernel
