/-! Methods that throw, and methods with handlers: rows of my own over the library's (Stand.ctorThrow0, Stand.outOfThrown, Stand.catchAt). -/
/-- the contract of a method that throws: from Pc it throws x, 'Qc args s x t'; at most mc cells of ms slots are new; no old cell changes -/
def tx_Met (l : Launch) (y : MethodName) (ws : List Cond) (rm : Room) (Pc : Array Value → State → Prop) (Qc : Array Value → State → Addr → State → Prop) (mc ms : Nat) : Prop :=
  MetFree l y (headSpec ws rm) Pc (fun _ _ _ _ _ => True) (fun a st o t => ∃ x, o = .threw x ∧ Qc a st x t ∧ st.WarmedH t.vm ∧ st.sameButNew ({ t with vm := st.vm } : State) [] mc ms)
def tx_MQ (below : List Frame) (Qc : Array Value → State → Addr → State → Prop) (a : Array Value) (s : State) (mc ms : Nat) : State → Prop := fun t =>
  t.status = .running ∧ ∃ x, Ended t below (.threw x) ∧ Qc a s x t ∧ s.WarmedH t.vm ∧ s.sameButNew ({ t with vm := s.vm } : State) [] mc ms
theorem tx_old {s t : State} {k n : Nat} (h : s.sameButNew t [] k n) (q : Nat) (hq : q < s.heap.size) : t.heap[q]? = s.heap[q]? := by
  obtain ⟨-, -, -, -, -, h6⟩ := h
  obtain ⟨c', h1, h2, h3, h4⟩ := h6 q s.heap[q] (Array.getElem?_eq_getElem hq)
  rw [h1, Array.getElem?_eq_getElem hq]
  have e : c'.slots = s.heap[q].slots := Array.ext_getElem? fun i => h4 i (by simp)
  rw [h2, e]
section TX
variable {p : Program} {l : Launch} {e : Env} {R : Room} {s : State} {m : MethodId} {args : Array Value} {below : List Frame} {meth : Method} {c : Code} {H : Heap} {locs : List Loc} {cells slots : Nat} {Q : State → Prop}
theorem tx_Met.ofW {y : MethodName} {ws ws' : List Cond} {rm : Room} {Pc : Array Value → State → Prop} {Qc : Array Value → State → Addr → State → Prop} {mc ms : Nat} {cc : ByteArray} {maxL : Nat} {ret : Option FieldType}
    (hy : plainName y.cls = true) (hw : ws = Cond.code y cc maxL ret :: ws')
    (body : ∀ p e s m args below meth c s₁, BodyLoose p l y (headSpec ws rm) cc maxL ret e s m args below meth c s₁ → c.maxLocals = maxL → Pc args s →
      W p l e (headSpec ws rm).room s m args below meth c s.heap [] 0 0 (tx_MQ below Qc args s mc ms) (entryFrame m args maxL)) : tx_Met l y ws rm Pc Qc mc ms := by
  refine MetFree.of_bodyS (code := cc) (maxLocals := maxL) (ret := ret) hy ?_ ?_
  · intro args s m h hn
    obtain ⟨meth, c, h1, h2, h3, h4, h5, h6, -, -⟩ := Cond.code_spec hn (atoms_spec (ws := ws) h _ (by rw [hw]; exact List.mem_cons_self))
    exact ⟨meth, c, h1, h2, h3, h4, h5, h6⟩
  · intro p e s m args below meth c s₁ B hml hP _
    have hh0 : s₁.heap = s.heap := by rw [B.state]; rfl
    obtain ⟨t, a1, b1, x, b2, b3, b4, b5⟩ := body p e s m args below meth c s₁ B hml hP s₁ hh0 (Stand.of_body B)
    exact ⟨t, .threw x, a1, b1, b2, x, rfl, b3, b4, b5⟩
/-- 'new X(); athrow' from behind the 'new' and 'dup': it throws -/
theorem tx_throw0 {cc : ByteArray} {Qc : Array Value → State → Addr → State → Prop} (hexec : p.tables.exec = Jvm.exec) (hb : c.code = cc) (htr : e.platform.stackTraces = false) {own cls : String} {names : List String} {ic : Nat}
    (hown : s.vm.findClass own = some m.cls) (hcls : Bundle.fit cls = true) (hnames : ∀ n ∈ names, Bundle.fit n = true)
    (h : ∀ a ∈ Bundle.ownAtoms0 own ic cls names, a.before args s = true)
    {a : Addr} {cX : ClassId} {kX : Class} (hfoundX : s.vm.findClass cls = some cX) (hkX : s.vm.classes[cX]? = some kX) (hcell : H[a]? = some (freshCell cX kX)) (hnew : s.heap.size ≤ a)
    {pc : Nat} {ls : Array Slot} {rest : List Value} (hsize : ls.size = c.maxLocals)
    (hd6 : decode cc pc = .ok (.invokespecial ic, 3)) (hd9 : decode cc (pc + 3) = .ok (.athrow, 1)) (hout : c.exceptionTable.isEmpty = true)
    (hRframes : names.length + 3 < R.frames) (hRlocals : 2 * (F0 m pc ls (.ref a :: .ref a :: rest)).monitorRoom + ((Value.ref a :: rest).map fun v => v.category).sum + (13 * (names.length + 1) + 41) ≤ R.locals) (hlocks : meth.locks = false)
    (hq : ∀ U : State, s.WarmedH U.vm → (∃ ce, U.heap[a]? = some ce ∧ ce.vm = .none ∧ s.vm.findClass cls = some ce.cls) → Qc args s a U) :
    W p l e R s m args below meth c H [] cells slots (tx_MQ below Qc args s cells slots) (F0 m pc ls (.ref a :: .ref a :: rest)) := by
  intro T hT X
  subst hT; subst hb
  obtain ⟨U, st, hrun, hend, hW, hsame, ce, hce, K⟩ := X.ctorThrow0 hexec htr hown hcls hnames h (fun x hx => by cases hx) hfoundX hkX hcell hnew (g := F0 m pc ls (.ref a :: .ref a :: rest)) rfl hsize rfl rfl rfl hd6 hd9
    (fun x hx => by
      have : c.exceptionTable.toList = [] := by simpa using hout
      rw [this] at hx; cases hx) hRframes hRlocals hlocks
  exact ⟨U, st, hrun, a, hend, hq U hW ⟨ce, hce, K.vm, K.cls⟩, hW, hsame⟩
end TX
