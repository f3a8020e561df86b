/-! The same in the walk's form. -/
theorem hm_tab {p : Program} {l : Launch} {x : MethodName} {S : Spec} {code : ByteArray} {maxLocals : Nat} {ret : Option FieldType} {e : Env} {s : State} {m : MethodId} {args : Array Value} {below : List Frame}
    {meth : Method} {c : Code} {s₁ : State} {hh : List (Nat × Nat × Nat × Nat)} (B : BodyLoose p l x S code maxLocals ret e s m args below meth c s₁) (h : (Cond.codeWith x code maxLocals ret hh).before args s = true) :
    c.exceptionTable.toList.map (fun h => (h.startPc, h.endPc, h.handlerPc, h.catchType)) = hh := by
  obtain ⟨m', meth', c', hn', hm', hc', -, -, ht', -⟩ := Cond.codeWith_spec h
  cases B.named.symm.trans hn'
  cases B.method.symm.trans hm'
  cases (Stand.of_body B).code.symm.trans hc'
  exact ht'
theorem hm_size {H H1 : Heap} (h : ∀ q : Nat, q < H.size → H1[q]? = H[q]?) : H.size ≤ H1.size := by
  apply Nat.le_of_not_lt
  intro hlt
  have := h H1.size hlt
  rw [Array.getElem?_eq_getElem hlt] at this
  simp at this
section TE
variable {p : Program} {l : Launch} {e : Env} {R : Room} {s : State} {m : MethodId} {args : Array Value} {below : List Frame} {meth : Method} {c : Code} {H : Heap} {locs : List Loc} {cells slots : Nat} {Q : State → Prop} {pc : Nat} {ls : Array Slot} {rest : List Value} {cc : ByteArray}
theorem tx_callCatch1 {bytes : ByteArray} {nL maxL n mc ms index : Nat} {ret : Option FieldType} {own C : String} {y : MethodName} {Ts ws : List Cond} {rm : Room} {Pc : Array Value → State → Prop} {Qc : Array Value → State → Addr → State → Prop} {b : Addr} {As : List Value}
    (S : CallFix p m c cc nL s args Ts own) (hM : tx_Met l y ws rm Pc Qc mc ms) (cw : CallW R s args own C index y bytes maxL ret ws rm mc ms n) (hp : PreV s H C b Pc As)
    (hn : As.length = n) (hsize : ls.size = nL) (hW : 2 * (F0 m pc ls (As.reverse ++ .ref b :: rest)).monitorRoom + (rest.map fun v => v.category).sum ≤ 8) (hdg : decode cc pc = .ok (.invokevirtual index, 3)) (hf : cells + mc ≤ R.cells ∧ slots + ms ≤ R.slots)
    {st en hd ct : Nat} {rs : List (Nat × Nat × Nat × Nat)} (htab : c.exceptionTable.toList.map (fun h => (h.startPc, h.endPc, h.handlerPc, h.catchType)) = (st, en, hd, ct) :: rs) {cls name : String} (hlink : (Cond.classLink own ct name).before args s = true) (h0 : ct ≠ 0) (h1 : st ≤ pc) (h2 : pc < en)
    (hQ : ∀ a u x t, Qc a u x t → ∃ ce : Cell, t.heap[x]? = some ce ∧ ce.vm = .none ∧ u.vm.findClass cls = some ce.cls) (hcast : (Cond.castable cls name).before args s = true)
    (kk : ∀ (x : Nat) (H1 : Heap), (∀ q : Nat, q < H.size → H1[q]? = H[q]?) → W p l e R s m args below meth c H1 locs (cells + mc) (slots + ms) Q (F0 m hd ls [.ref x])) :
    W p l e R s m args below meth c H locs cells slots Q (F0 m pc ls (As.reverse ++ .ref b :: rest)) := by
  intro T hT X
  obtain ⟨x, st₀, t, T', hs0, X', hh, hq, hal, hold, hst⟩ := tx_callV X S hM cw hp hT (g := F0 m pc ls (As.reverse ++ .ref b :: rest)) rfl hn hsize rfl hW hdg hf
  obtain ⟨ce, hce, hvm, hcl⟩ := hQ _ _ _ _ hq
  rw [List.append_nil] at X'
  obtain ⟨cA, cT, hcA, hcT, hasg⟩ := Cond.castable_spec hcast
  have hcls : s.vm.findClass cls = some ce.cls := by rw [hal.findClass]; exact hcl
  cases hcA.symm.trans hcls
  obtain ⟨vm', X'', st2⟩ := tx_catch1 X' S.2.2.2.1 htab hlink h0 (g := F0 m pc ls rest) rfl h1 h2 (by rw [hh]; exact hce) hvm hcls hcT hasg
  obtain ⟨t2, a1, b1⟩ := kk x t.heap hold (T'.setVm vm') hh X''
  exact ⟨t2, hst t2 (st2 t2 a1), b1⟩
theorem tx_callCatch2 {bytes : ByteArray} {nL maxL n mc ms index : Nat} {ret : Option FieldType} {own C : String} {y : MethodName} {Ts ws : List Cond} {rm : Room} {Pc : Array Value → State → Prop} {Qc : Array Value → State → Addr → State → Prop} {b : Addr} {As : List Value}
    (S : CallFix p m c cc nL s args Ts own) (hM : tx_Met l y ws rm Pc Qc mc ms) (cw : CallW R s args own C index y bytes maxL ret ws rm mc ms n) (hp : PreV s H C b Pc As)
    (hn : As.length = n) (hsize : ls.size = nL) (hW : 2 * (F0 m pc ls (As.reverse ++ .ref b :: rest)).monitorRoom + (rest.map fun v => v.category).sum ≤ 8) (hdg : decode cc pc = .ok (.invokevirtual index, 3)) (hf : cells + mc ≤ R.cells ∧ slots + ms ≤ R.slots)
    {st en hd ct st2 en2 hd2 ct2 : Nat} {rs : List (Nat × Nat × Nat × Nat)} (htab : c.exceptionTable.toList.map (fun h => (h.startPc, h.endPc, h.handlerPc, h.catchType)) = (st, en, hd, ct) :: (st2, en2, hd2, ct2) :: rs) {cls name name2 : String} (hlink : (Cond.classLink own ct name).before args s = true) (h0 : ct ≠ 0) (hlink2 : (Cond.classLink own ct2 name2).before args s = true) (h02 : ct2 ≠ 0) (h1 : st ≤ pc) (h2 : pc < en) (h12 : st2 ≤ pc) (h22 : pc < en2)
    (hQ : ∀ a u x t, Qc a u x t → ∃ ce : Cell, t.heap[x]? = some ce ∧ ce.vm = .none ∧ u.vm.findClass cls = some ce.cls) (hno : va_Nc cls name s) (hcast : (Cond.castable cls name2).before args s = true)
    (kk : ∀ (x : Nat) (H1 : Heap), (∀ q : Nat, q < H.size → H1[q]? = H[q]?) → W p l e R s m args below meth c H1 locs (cells + mc) (slots + ms) Q (F0 m hd2 ls [.ref x])) :
    W p l e R s m args below meth c H locs cells slots Q (F0 m pc ls (As.reverse ++ .ref b :: rest)) := by
  intro T hT X
  obtain ⟨x, st₀, t, T', hs0, X', hh, hq, hal, hold, hst⟩ := tx_callV X S hM cw hp hT (g := F0 m pc ls (As.reverse ++ .ref b :: rest)) rfl hn hsize rfl hW hdg hf
  obtain ⟨ce, hce, hvm, hcl⟩ := hQ _ _ _ _ hq
  rw [List.append_nil] at X'
  obtain ⟨cA, cT, hcA, hcT, hasg⟩ := Cond.castable_spec hcast
  have hcls : s.vm.findClass cls = some ce.cls := by rw [hal.findClass]; exact hcl
  cases hcA.symm.trans hcls
  obtain ⟨cB, cT1, hcB, hcT1, hna⟩ := hno
  cases hcB.symm.trans hcls
  obtain ⟨vm', X'', st3⟩ := tx_catch2 X' S.2.2.2.1 htab hlink h0 hlink2 h02 (g := F0 m pc ls rest) rfl h1 h2 h12 h22 (by rw [hh]; exact hce) hvm hcls hcT1 hna hcT hasg
  obtain ⟨t2, a1, b1⟩ := kk x t.heap hold (T'.setVm vm') hh X''
  exact ⟨t2, hst t2 (st3 t2 a1), b1⟩
/-- the call of a static method with handlers -/
theorem hm_runS {bytes : ByteArray} {nL maxL n mc ms index : Nat} {ret : Option FieldType} {own : String} {y : MethodName} {Ts ws : List Cond} {rm : Room} {Pc : Array Value → State → Prop} {Qc : Array Value → State → Outcome → State → Prop} {free : Addr → Prop} {As : List Value} {g : JFrame} {hh : List (Nat × Nat × Nat × Nat)}
    (S : CallFix p m c cc nL s args Ts own) (hM : Met l y ws rm Pc Qc mc ms free) (hrc : rm.cells = mc) (hrs : rm.slots = ms) (hRm : rm.frames + 1 ≤ R.frames ∧ 8 + (maxL + 11) + rm.locals ≤ R.locals) (hG : GoodIn Ts ws) (hcw : Cond.codeWith y bytes maxL ret hh ∈ ws)
    (hl : (Cond.methodLink own index y).before args s = true) (hstat : (Cond.static y).before args s = true) (hini : (Cond.initialized y.cls).before args s = true) (hy : y.cls ≠ "java/lang/invoke/MethodHandle" ∧ y.cls ≠ "java/lang/invoke/VarHandle") (hlen : (parseMethodDescriptor y.desc).map (fun d => d.parameters.length) = some n) (hp : PreS s H Pc As)
    (hg : g.method = m) (hn : As.length = n) (hsize : g.locals.size = nL) (hstack : g.stack = As.reverse ++ rest) (hW : 2 * g.monitorRoom + (rest.map fun v => v.category).sum ≤ 8) (hdg : decode cc g.pc = .ok (.invokestatic index, 3)) (hf : cells + mc ≤ R.cells ∧ slots + ms ≤ R.slots) :
    va_Run p l e R s m args below meth c H locs cells slots mc ms g rest (Qc As.toArray) (free) := by
  obtain ⟨hx, hb, hml, ho, ht⟩ := S
  have hws := pay_in ht hG
  have hK : Back l R p e below s args y 3 8 (PreOf R mc ms Pc) (PostOf Qc mc ms free) := va_backW (bytes := bytes) (maxL := maxL) (ret := ret) (hh := hh) hM hp.1 hrc hrs hRm.1 hRm.2 hws hcw (fun a' U hW => word_at hW (Or.inl (by first | rfl | simp [Cond.onTables, Cond.keeps, Cond.steady])) hini)
  intro T hT X
  obtain ⟨mk, methM, cM, hnamed, hmethM, -, -, -, -, -, -, hsigM⟩ := Cond.codeWith_spec (ht _ (hG _ hcw).1)
  have hstatic : methM.isStatic = true := Cond.static_spec hnamed hmethM hstat
  obtain ⟨kP, hkP, -⟩ := className_of_methodNamed hnamed
  have hinitP : kP.init = .initialized := Cond.initialized_spec (findClass_of_methodNamed hnamed) hkP hini
  have hlen' : As.length = methM.sig.parameters.length := by
    rw [hsigM] at hlen
    simpa [hn] using hlen.symm
  obtain ⟨vm₁, X₁, hstep₁⟩ := X.invokestatic hx ho hl hnamed hmethM hstatic hkP hinitP hy (g := g) hg (argsL := As) (rest := rest) hlen' hstack (by rw [hb]; exact hdg)
  obtain ⟨v, ⟨U', l2, c2, s2⟩, X', ⟨g', mk', t, L, e1, e2, hq, h1, hL, h2, h3⟩, hsteps⟩ := hK m meth c ⟨T.setVm vm₁, locs, cells, slots⟩ { g with stack := rest } (.invokestatic index) mk As.toArray X₁ hg (hsize.trans hml.symm) (by rw [hb]; exact hdg) hW (X₁.named hnamed) ⟨hf.1, hf.2, hp.2 (T.setVm vm₁) hT X₁.warmed⟩
  dsimp only [Pt.U, Pt.locs, Pt.cells, Pt.slots] at X' e1 e2 h1 h2 h3 hsteps
  subst h1; subst h2; subst h3
  exact ⟨v, (T.setVm vm₁).calling g' mk' As.toArray, t, U', L, hT, X', hL, e1, e2, hq, fun target h => hstep₁ _ fun acts => by rw [doInvoke_state]; exact hsteps.trans h⟩
end TE
/-- 'a reference or null' of a static, out of its world's word -/
theorem tx_isRef {C n d : String} {A : Nat → Prop} {s : State} {args : Array Value} (h : va_Zq C n d A s s.heap) : (Cond.isRef (.static C n d)).before args s = true := by
  rcases h with h | ⟨t, h⟩
  · obtain ⟨cf, kf, fi, f, a, cell, h1, h2, h3, h4, h5, h6, h7, -⟩ := h
    simp [Cond.before, Cond.holds, Cond.value, Term.eval, State.fieldNamed?, h1, h2, h4, h5, h6, h7]
  · obtain ⟨cf, kf, fi, f, a, cell, h1, h2, h3, h4, h5, h6, h7, -⟩ := h
    simp [Cond.before, Cond.holds, Cond.value, Term.eval, State.fieldNamed?, h1, h2, h4, h5, h6, h7]
