/-! A call that throws, caught by a handler of the caller; a static method with handlers, called. -/
def tx_Finds (e : Env) (s : State) (f : JFrame) (a : Addr) (h : Handler) (s' : State) : Prop :=
  ∀ (Q : Handler → Pre) (E : CtlPost) (d : Bool) (acts : List Action), Sem.wp (findHandler f a) Q E e d acts s ↔ Q h d acts s'
theorem tx_stepCatch {e : Env} {s s' : State} {a : Addr} {f : JFrame} {r : List Frame} {pc : Nat} (hfind : tx_Finds e s f a (.found pc) s') :
    (stepThrowing e s a (.java f :: r)).Is (s'.setFrames (.java { f with pc := pc, stack := [.ref a] } :: r)) [] := by
  simp only [stepThrowing, searchFrame, vmDo]
  generalize hr : Sem.go _ e false [] s = res
  obtain ⟨as, rfl, ha⟩ := Sem.eq_ok_of hr (a := Handler.found pc) (s' := s') (acts' := []) (by simp [hfind _ _ _ _])
  exact ⟨rfl, ha⟩
theorem tx_caught {tb : Tables} {e : Env} {s target : State} {g : JFrame} {c : Code} {below : List Frame} {a : Addr} (h : At s g.method c below) {pc : Nat} {vm' : Vm}
    (hfind : tx_Finds e ((s.setTop g).pushFrame (.throwing a)) g a (.found pc) (((s.setVm vm').setTop g).pushFrame (.throwing a)))
    (hrest : Steps tb e below ((s.setVm vm').setTop { g with pc := pc, stack := [.ref a] }) target) :
    Steps tb e below ((s.setTop g).pushFrame (.throwing a)) target := by
  obtain ⟨hgo, hw⟩ := h.throwing a
  refine Steps.head hgo hw ?_
  rw [stepThread_throwing (frames_entered h.top _), (tx_stepCatch hfind).1]
  obtain ⟨g₀, hg⟩ := Option.isSome_iff_exists.mp h.top
  obtain ⟨r, hr⟩ := State.topJava?_eq_some.mp hg
  have hr' : (s.setVm vm').frames = .java g₀ :: r := hr
  rw [State.pushFrame, State.setFrames_setFrames, State.setTop_of_frames _ hr', State.setFrames_setFrames]
  rw [State.setTop_of_frames _ hr'] at hrest
  rw [hr]
  exact hrest
section TD
variable {p : Program} {l : Launch} {e : Env} {R : Room} {s : State} {m : MethodId} {args : Array Value} {below : List Frame} {meth : Method} {c : Code} {T : State} {locs : List Loc} {cells slots : Nat}
theorem tx_entry (X : Stand p l e R s m args below meth c T locs cells slots) {own name : String} (hown : s.vm.findClass own = some m.cls) {en : ExceptionTableEntry} (hlink : (Cond.classLink own en.catchType name).before args s = true) (h0 : en.catchType ≠ 0)
    {g : JFrame} (hg : g.method = m) (hcov : covers en g.pc = true) {x : Addr} {ce : Cell} (hcell : T.heap[x]? = some ce) (hvm : ce.vm = .none) {cls : String} (hcls : s.vm.findClass cls = some ce.cls) {cT : ClassId} (hcT : s.vm.findClass name = some cT) :
    ∃ vm', Stand p l e R s m args below meth c (T.setVm vm') locs cells slots ∧ ∀ (t : List ExceptionTableEntry) (Q : Handler → Pre) (E : CtlPost) (d : Bool) (acts : List Action), Sem.wp (findHandler.go g x (en :: t)) Q E e d acts ((T.setTop g).pushFrame (.throwing x)) ↔
      if s.vm.assignable ce.cls cT = true then Q (.found en.handlerPc) d acts (((T.setVm vm').setTop g).pushFrame (.throwing x)) else Sem.wp (findHandler.go g x t) Q E e d acts (((T.setVm vm').setTop g).pushFrame (.throwing x)) := by
  have hpl : e.platform.magicAccessors = ({} : Platform).magicAccessors := by rw [X.admits.platform]
  obtain ⟨c', hc', hcl⟩ := Cond.classLink_spec hown hlink e.platform hpl
  cases hcT.symm.trans hc'
  obtain ⟨dk, _, _, kt, hd, _, _, _, _, hkt, _, hopen⟩ := hcl.here
  have hcl₀ := X.warmed.classLinks hcl
  have hW' : s.WarmedH (T.vm.noted m.cls en.catchType (.cls cT)) := X.warmed.noted hd hopen (State.rightAt_cls hcl)
  obtain ⟨ks, hks⟩ := Vm.classAt_of_findClass hcls
  obtain ⟨ks', hks', -⟩ := hW'.alike.2.2 _ _ hks
  obtain ⟨kt', hkt', -⟩ := hW'.alike.2.2 _ _ hkt
  refine ⟨_, X.noted hW', fun t Q E d acts => ?_⟩
  subst hg
  have hv : ((T.setTop g).pushFrame (.throwing x)).vm = T.vm := Stand.throwing_vm T g x
  have hh : ((T.setTop g).pushFrame (.throwing x)).heap = T.heap := Stand.throwing_heap T g x
  have key := tx_goCold (e := e) (s := (T.setTop g).pushFrame (.throwing x)) (f := g) (a := x) (Q := Q) (E := E) (d := d) (acts := acts) (x := en) (t := t) (c := cT) (cell := ce) hcov h0 (by rw [hv]; exact hcl₀) (by rw [hh]; exact hcell) (fun k hk => by rw [hvm] at hk; cases hk) (by rw [hv]; exact ⟨ks', hks'⟩) (by rw [hv]; exact ⟨kt', hkt'⟩)
  rw [key, hv, hW'.alike.assignable]
  rfl
/-- the first entry catches -/
theorem tx_catch1 (X : Stand p l e R s m args below meth c T locs cells slots) {own name : String} (hown : s.vm.findClass own = some m.cls) {st en hd ct : Nat} {rest : List (Nat × Nat × Nat × Nat)} (htab : c.exceptionTable.toList.map (fun h => (h.startPc, h.endPc, h.handlerPc, h.catchType)) = (st, en, hd, ct) :: rest) (hlink : (Cond.classLink own ct name).before args s = true) (h0 : ct ≠ 0)
    {g : JFrame} (hg : g.method = m) (h1 : st ≤ g.pc) (h2 : g.pc < en) {x : Addr} {ce : Cell} (hcell : T.heap[x]? = some ce) (hvm : ce.vm = .none) {cls : String} (hcls : s.vm.findClass cls = some ce.cls) {cT : ClassId} (hcT : s.vm.findClass name = some cT) (hasg : s.vm.assignable ce.cls cT = true) :
    ∃ vm', Stand p l e R s m args below meth c (T.setVm vm') locs cells slots ∧ ∀ target, Steps p.tables e below ((T.setVm vm').setTop { g with pc := hd, stack := [.ref x] }) target → Steps p.tables e below ((T.setTop g).pushFrame (.throwing x)) target := by
  cases htl : c.exceptionTable.toList with
  | nil => rw [htl] at htab; cases htab
  | cons y ys =>
    rw [htl, List.map_cons] at htab
    injection htab with e1 e2
    simp only [Prod.mk.injEq] at e1
    obtain ⟨rfl, rfl, rfl, rfl⟩ := e1
    obtain ⟨vm', X', hgo⟩ := tx_entry X hown hlink h0 hg (by simp only [covers, Bool.and_eq_true, decide_eq_true_eq]; exact ⟨h1, h2⟩) hcell hvm hcls hcT
    refine ⟨vm', X', fun target hrest => ?_⟩
    subst hg
    refine tx_caught X.here (vm' := vm') (fun Q E d acts => ?_) hrest
    rw [W.findHandler_eq (meth := meth) (code := c) (by rw [Stand.throwing_vm]; exact X.method') X.code, htl, hgo, if_pos hasg]
/-- the first entry is passed, the second catches -/
theorem tx_catch2 (X : Stand p l e R s m args below meth c T locs cells slots) {own name name2 : String} (hown : s.vm.findClass own = some m.cls) {st en hd ct st2 en2 hd2 ct2 : Nat} {rest : List (Nat × Nat × Nat × Nat)} (htab : c.exceptionTable.toList.map (fun h => (h.startPc, h.endPc, h.handlerPc, h.catchType)) = (st, en, hd, ct) :: (st2, en2, hd2, ct2) :: rest) (hlink : (Cond.classLink own ct name).before args s = true) (h0 : ct ≠ 0) (hlink2 : (Cond.classLink own ct2 name2).before args s = true) (h02 : ct2 ≠ 0)
    {g : JFrame} (hg : g.method = m) (h1 : st ≤ g.pc) (h2 : g.pc < en) (h12 : st2 ≤ g.pc) (h22 : g.pc < en2) {x : Addr} {ce : Cell} (hcell : T.heap[x]? = some ce) (hvm : ce.vm = .none) {cls : String} (hcls : s.vm.findClass cls = some ce.cls) {cT cT2 : ClassId} (hcT : s.vm.findClass name = some cT) (hno : s.vm.assignable ce.cls cT = false) (hcT2 : s.vm.findClass name2 = some cT2) (hasg : s.vm.assignable ce.cls cT2 = true) :
    ∃ vm', Stand p l e R s m args below meth c (T.setVm vm') locs cells slots ∧ ∀ target, Steps p.tables e below ((T.setVm vm').setTop { g with pc := hd2, stack := [.ref x] }) target → Steps p.tables e below ((T.setTop g).pushFrame (.throwing x)) target := by
  cases htl : c.exceptionTable.toList with
  | nil => rw [htl] at htab; cases htab
  | cons y ys =>
    cases ys with
    | nil => rw [htl] at htab; simp at htab
    | cons z zs =>
      rw [htl, List.map_cons, List.map_cons] at htab
      injection htab with e1 e2
      injection e2 with e2 e3
      simp only [Prod.mk.injEq] at e1 e2
      obtain ⟨rfl, rfl, rfl, rfl⟩ := e1
      obtain ⟨rfl, rfl, rfl, rfl⟩ := e2
      obtain ⟨vm₁, X₁, hgo₁⟩ := tx_entry X hown hlink h0 hg (by simp only [covers, Bool.and_eq_true, decide_eq_true_eq]; exact ⟨h1, h2⟩) hcell hvm hcls hcT
      obtain ⟨vm₂, X₂, hgo₂⟩ := tx_entry X₁ hown hlink2 h02 hg (by simp only [covers, Bool.and_eq_true, decide_eq_true_eq]; exact ⟨h12, h22⟩) (show (T.setVm vm₁).heap[x]? = some ce from hcell) hvm hcls hcT2
      refine ⟨vm₂, X₂, fun target hrest => ?_⟩
      subst hg
      refine tx_caught X.here (vm' := vm₂) (fun Q E d acts => ?_) hrest
      rw [W.findHandler_eq (meth := meth) (code := c) (by rw [Stand.throwing_vm]; exact X.method') X.code, htl, hgo₁, if_neg (by rw [hno]; decide), hgo₂, if_pos hasg]
      rfl
/-- what an 'invokevirtual' of a method that throws comes to: the note over the caller's frame -/
theorem tx_callV (X : Stand p l e R s m args below meth c T locs cells slots) {cc bytes : ByteArray} {nL maxL n mc ms index : Nat} {ret : Option FieldType} {own C : String} {y : MethodName} {Ts ws : List Cond} {rm : Room} {Pc : Array Value → State → Prop} {Qc : Array Value → State → Addr → State → Prop} {b : Addr} {As rest : List Value} {H : Heap}
    (S : CallFix p m c cc nL s args Ts own) (hM : tx_Met l y ws rm Pc Qc mc ms) (cw : CallW R s args own C index y bytes maxL ret ws rm mc ms n) (hp : PreV s H C b Pc As) (hT : T.heap = H)
    {g : JFrame} (hg : g.method = m) (hn : As.length = n) (hsize : g.locals.size = nL) (hstack : g.stack = As.reverse ++ .ref b :: rest) (hW : 2 * g.monitorRoom + (rest.map fun v => v.category).sum ≤ 8) (hdg : decode cc g.pc = .ok (.invokevirtual index, 3)) (hf : cells + mc ≤ R.cells ∧ slots + ms ≤ R.slots) :
    ∃ (x : Addr) (st₀ t T' : State), st₀.heap = H ∧ Stand p l e R s m args below meth c T' (locs ++ []) (cells + mc) (slots + ms) ∧ T'.heap = t.heap ∧ Qc (Value.ref b :: As).toArray st₀ x t ∧ st₀.vm.Alike s.vm ∧ (∀ q : Nat, q < H.size → t.heap[q]? = H[q]?) ∧
      ∀ target, Steps p.tables e below ((T'.setTop { g with stack := rest }).pushFrame (.throwing x)) target → Steps p.tables e below (T.setTop g) target := by
  obtain ⟨⟨hrc, hrs, hfr, hlo, hws, hcw, hcode, hini, hy, hlen, hlink⟩, hinst, hsel⟩ := cw
  obtain ⟨hx, hb, hml, hown, -⟩ := S
  obtain ⟨hblind, ⟨cellB, hcB, hoB, hkB⟩, hPc⟩ := hp
  subst hb
  obtain ⟨mk, methM, hnamed, hmethM, hstM, habM⟩ := Cond.instanceMethod_spec hinst
  obtain ⟨methM', cM, hmethM', hcM, -, hlM, -, -, -, hsigM⟩ := Cond.code_spec hnamed hcode
  cases hmethM.symm.trans hmethM'
  obtain ⟨c2, r2, m2, q1, q2, q3, q4, kP, hkP, hkPi⟩ := Cond.selects_spec hsel
  cases hkB.symm.trans q1
  cases (State.methodFound?_of_named hnamed hy).symm.trans q2
  cases hnamed.symm.trans q3
  have hselP : selectMethod e.platform s.vm cellB.cls mk = .method mk := by rw [Launch.admits_selectMethod X.admits]; exact q4
  obtain ⟨vm₁, X₁, hstep₁⟩ := X.invokevirtual hx hown hlink hnamed hmethM hstM hkP hkPi hy (a := b) (cell := cellB) (by rw [hT]; exact hcB)
    (fun z h => by rw [h] at hoB; cases hoB) hselP hmethM habM hkP hkPi (g := g) hg (argsL := As) (rest := rest) (hn.trans (hlen _ hsigM)) hstack hdg
  subst hg
  have hnU : (T.setVm vm₁).methodNamed? y = some mk := X₁.named hnamed
  obtain ⟨methY, cY, hmY, hcY, -, hlY, -, -, -, -⟩ := Cond.code_spec hnU (hws _ hcw (Value.ref b :: As).toArray (T.setVm vm₁) X₁.warmed)
  obtain ⟨kY, hkY, -⟩ := className_of_methodNamed hnU
  have hinitY : kY.init = .initialized := Cond.initialized_spec (args := #[]) (findClass_of_methodNamed hnU) hkY (word_at X₁.warmed (Or.inl (by first | rfl | simp [Cond.onTables, Cond.keeps, Cond.steady])) hini)
  have h := X₁.here
  have happ : (headSpec ws rm).appliesLoose y e.platform ((T.setVm vm₁).calling { g with stack := rest } mk (Value.ref b :: As).toArray) = true :=
    Spec.appliesLoose_calling (g := { g with stack := rest }) h hdg hnU hkY hinitY
      (X₁.room_calling (g := { g with stack := rest }) (R' := (headSpec ws rm).room) (hsize.trans hml.symm) hmY hcY hfr (by rw [hlY]; show 2 * JFrame.monitorRoom { g with stack := rest } + (rest.map fun v => v.category).sum + (maxL + 11) + rm.locals ≤ R.locals; have : JFrame.monitorRoom { g with stack := rest } = g.monitorRoom := rfl; omega) (by show cells + rm.cells ≤ R.cells; rw [hrc]; exact hf.1) (by show slots + rm.slots ≤ R.slots; rw [hrs]; exact hf.2))
      (atoms_intro fun w hw => hws w hw _ _ X₁.warmed)
  obtain ⟨mid, hmid⟩ := h.above
  have hfr2 : ((T.setVm vm₁).setTop { g with stack := rest }).frames = (.java { g with stack := rest } :: mid) ++ below := by rw [State.frames_setTop' _ h.top, hmid]; rfl
  obtain ⟨o, t, hsteps, -, hend, x, rfl, hq, hWt, hsame⟩ := Steps.callFree hM p X₁.admits X₁.cas X₁.clock (acts := []) hfr2 happ (hblind _ _ _ _ (hPc (T.setVm vm₁) hT X₁.warmed)) trivial
  rw [State.frames_setTop' _ h.top, X₁.tail] at hend
  obtain ⟨T', X', hWT, hsT, htT⟩ := X₁.outOfThrown (g := { g with stack := rest }) rfl (mk := mk) (a := (Value.ref b :: As).toArray) (t := t) hend hWt hsame
  refine ⟨x, (T.setVm vm₁).calling { g with stack := rest } mk (Value.ref b :: As).toArray, t, T', hT, X', ?_, hq, ?_, ?_, fun target hrest => ?_⟩
  · rw [htT]; exact (Stand.throwing_heap T' _ x).symm
  · exact X₁.warmed.alike.symm
  · intro q hq'
    have := tx_old hsame q (by show q < T.heap.size; rw [hT]; exact hq')
    rw [show t.heap[q]? = _ from this, ← hT]; rfl
  · refine hstep₁ _ fun acts => ?_
    rw [doInvoke_state]
    exact hsteps.trans (by rw [htT]; exact hrest)
end TD
