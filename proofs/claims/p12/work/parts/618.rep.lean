/-! A prefix, and the class's rows of it. -/
def NetR (N : Net8) (nz : Nat) (np nq : Nat → Int32) (nf : Int32) : Prop := (nz = N.nz) ∧ (N.nz ≤ 8) ∧ (∀ t, t < N.nz → B32 (np t) (fun p => p < 8 ∧ N.pr t p = true)) ∧ (∀ t, t < N.nz → ∃ n, n < 256 ∧ nq t = nI n ∧ ∀ p, p < 8 → N.po t p = n.testBit p) ∧ (∃ n, n < 256 ∧ nf = nI n ∧ ∀ p, p < 8 → N.fi p = n.testBit p) ∧ (∀ t, t < N.nz → ∃ p, p < 8 ∧ N.pr t p = true)
theorem NetR.nz {N : Net8} {nz : Nat} {np nq : Nat → Int32} {nf : Int32} (h : NetR N nz np nq nf) : nz = N.nz := h.1
theorem NetR.z8 {N : Net8} {nz : Nat} {np nq : Nat → Int32} {nf : Int32} (h : NetR N nz np nq nf) : N.nz ≤ 8 := h.2.1
theorem NetR.np {N : Net8} {nz : Nat} {np nq : Nat → Int32} {nf : Int32} (h : NetR N nz np nq nf) : ∀ t, t < N.nz → B32 (np t) (fun p => p < 8 ∧ N.pr t p = true) := h.2.2.1
theorem NetR.nq {N : Net8} {nz : Nat} {np nq : Nat → Int32} {nf : Int32} (h : NetR N nz np nq nf) : ∀ t, t < N.nz → ∃ n, n < 256 ∧ nq t = nI n ∧ ∀ p, p < 8 → N.po t p = n.testBit p := h.2.2.2.1
theorem NetR.nf {N : Net8} {nz : Nat} {np nq : Nat → Int32} {nf : Int32} (h : NetR N nz np nq nf) : ∃ n, n < 256 ∧ nf = nI n ∧ ∀ p, p < 8 → N.fi p = n.testBit p := h.2.2.2.2.1
theorem NetR.ne0 {N : Net8} {nz : Nat} {np nq : Nat → Int32} {nf : Int32} (h : NetR N nz np nq nf) : ∀ t, t < N.nz → ∃ p, p < 8 ∧ N.pr t p = true := h.2.2.2.2.2
theorem NetR.ok {N : Net8} {nz : Nat} {np nq : Nat → Int32} {nf : Int32} (h : NetR N nz np nq nf) : NetOk N := ⟨h.z8, h.ne0⟩
theorem plc_psN {f : Nat → Bool} {n : Nat} (h : ∀ p, p < 8 → f p = n.testBit p) : plc f = psN n := List.filter_congr fun p hp => h p (List.mem_range.mp hp)
def RepC (P : Px) (pfc pfe : Nat) (pfu : Int32) (fpl fmk ftk : Nat → Int32) (fbs fop : Nat → Int64) (ftr : Nat → Int32) (ftn : Nat → Int64) (fca fma : Nat → Int32) (frk : Nat → Int64) : Prop := (pfc = P.nc) ∧ (pfe = P.ne) ∧ (pfc ≤ 60) ∧ (pfe ≤ 30) ∧ (PlaI pfc fpl P.pl) ∧ (MakI pfc fmk P.mo) ∧ (TakI pfc ftk P.tkP) ∧ (BesI pfc fbs (fun c d => d < pfc ∧ P.co c d = true)) ∧ (∀ p, p < 8 → B64 (fop p) (fun c => c < pfc ∧ P.pl c = p)) ∧ (TraI pfe ftr P.tr) ∧ (∀ a, a < pfe → B64 (ftn a) (fun c => P.tk a c = true)) ∧ (∀ a, a < pfe → B32 (fca a) (fun f => P.cs a f = true)) ∧ (∀ a, a < pfe → B32 (fma a) (fun p => p < 8 ∧ P.mg a p = true)) ∧ (∀ a, a < pfe → frk a = lN (P.rk a)) ∧ (B32 pfu (fun a => a < pfe ∧ P.ct a = true))
theorem RepC.nc {P : Px} {pfc pfe : Nat} {pfu : Int32} {fpl fmk ftk : Nat → Int32} {fbs fop : Nat → Int64} {ftr : Nat → Int32} {ftn : Nat → Int64} {fca fma : Nat → Int32} {frk : Nat → Int64} (h : RepC P pfc pfe pfu fpl fmk ftk fbs fop ftr ftn fca fma frk) : pfc = P.nc := h.1
theorem RepC.ne {P : Px} {pfc pfe : Nat} {pfu : Int32} {fpl fmk ftk : Nat → Int32} {fbs fop : Nat → Int64} {ftr : Nat → Int32} {ftn : Nat → Int64} {fca fma : Nat → Int32} {frk : Nat → Int64} (h : RepC P pfc pfe pfu fpl fmk ftk fbs fop ftr ftn fca fma frk) : pfe = P.ne := h.2.1
theorem RepC.c60 {P : Px} {pfc pfe : Nat} {pfu : Int32} {fpl fmk ftk : Nat → Int32} {fbs fop : Nat → Int64} {ftr : Nat → Int32} {ftn : Nat → Int64} {fca fma : Nat → Int32} {frk : Nat → Int64} (h : RepC P pfc pfe pfu fpl fmk ftk fbs fop ftr ftn fca fma frk) : pfc ≤ 60 := h.2.2.1
theorem RepC.e30 {P : Px} {pfc pfe : Nat} {pfu : Int32} {fpl fmk ftk : Nat → Int32} {fbs fop : Nat → Int64} {ftr : Nat → Int32} {ftn : Nat → Int64} {fca fma : Nat → Int32} {frk : Nat → Int64} (h : RepC P pfc pfe pfu fpl fmk ftk fbs fop ftr ftn fca fma frk) : pfe ≤ 30 := h.2.2.2.1
theorem RepC.pl {P : Px} {pfc pfe : Nat} {pfu : Int32} {fpl fmk ftk : Nat → Int32} {fbs fop : Nat → Int64} {ftr : Nat → Int32} {ftn : Nat → Int64} {fca fma : Nat → Int32} {frk : Nat → Int64} (h : RepC P pfc pfe pfu fpl fmk ftk fbs fop ftr ftn fca fma frk) : PlaI pfc fpl P.pl := h.2.2.2.2.1
theorem RepC.mak {P : Px} {pfc pfe : Nat} {pfu : Int32} {fpl fmk ftk : Nat → Int32} {fbs fop : Nat → Int64} {ftr : Nat → Int32} {ftn : Nat → Int64} {fca fma : Nat → Int32} {frk : Nat → Int64} (h : RepC P pfc pfe pfu fpl fmk ftk fbs fop ftr ftn fca fma frk) : MakI pfc fmk P.mo := h.2.2.2.2.2.1
theorem RepC.tk {P : Px} {pfc pfe : Nat} {pfu : Int32} {fpl fmk ftk : Nat → Int32} {fbs fop : Nat → Int64} {ftr : Nat → Int32} {ftn : Nat → Int64} {fca fma : Nat → Int32} {frk : Nat → Int64} (h : RepC P pfc pfe pfu fpl fmk ftk fbs fop ftr ftn fca fma frk) : TakI pfc ftk P.tkP := h.2.2.2.2.2.2.1
theorem RepC.bs {P : Px} {pfc pfe : Nat} {pfu : Int32} {fpl fmk ftk : Nat → Int32} {fbs fop : Nat → Int64} {ftr : Nat → Int32} {ftn : Nat → Int64} {fca fma : Nat → Int32} {frk : Nat → Int64} (h : RepC P pfc pfe pfu fpl fmk ftk fbs fop ftr ftn fca fma frk) : BesI pfc fbs (fun c d => d < pfc ∧ P.co c d = true) := h.2.2.2.2.2.2.2.1
theorem RepC.op {P : Px} {pfc pfe : Nat} {pfu : Int32} {fpl fmk ftk : Nat → Int32} {fbs fop : Nat → Int64} {ftr : Nat → Int32} {ftn : Nat → Int64} {fca fma : Nat → Int32} {frk : Nat → Int64} (h : RepC P pfc pfe pfu fpl fmk ftk fbs fop ftr ftn fca fma frk) : ∀ p, p < 8 → B64 (fop p) (fun c => c < pfc ∧ P.pl c = p) := h.2.2.2.2.2.2.2.2.1
theorem RepC.tr {P : Px} {pfc pfe : Nat} {pfu : Int32} {fpl fmk ftk : Nat → Int32} {fbs fop : Nat → Int64} {ftr : Nat → Int32} {ftn : Nat → Int64} {fca fma : Nat → Int32} {frk : Nat → Int64} (h : RepC P pfc pfe pfu fpl fmk ftk fbs fop ftr ftn fca fma frk) : TraI pfe ftr P.tr := h.2.2.2.2.2.2.2.2.2.1
theorem RepC.tn {P : Px} {pfc pfe : Nat} {pfu : Int32} {fpl fmk ftk : Nat → Int32} {fbs fop : Nat → Int64} {ftr : Nat → Int32} {ftn : Nat → Int64} {fca fma : Nat → Int32} {frk : Nat → Int64} (h : RepC P pfc pfe pfu fpl fmk ftk fbs fop ftr ftn fca fma frk) : ∀ a, a < pfe → B64 (ftn a) (fun c => P.tk a c = true) := h.2.2.2.2.2.2.2.2.2.2.1
theorem RepC.ca {P : Px} {pfc pfe : Nat} {pfu : Int32} {fpl fmk ftk : Nat → Int32} {fbs fop : Nat → Int64} {ftr : Nat → Int32} {ftn : Nat → Int64} {fca fma : Nat → Int32} {frk : Nat → Int64} (h : RepC P pfc pfe pfu fpl fmk ftk fbs fop ftr ftn fca fma frk) : ∀ a, a < pfe → B32 (fca a) (fun f => P.cs a f = true) := h.2.2.2.2.2.2.2.2.2.2.2.1
theorem RepC.ma {P : Px} {pfc pfe : Nat} {pfu : Int32} {fpl fmk ftk : Nat → Int32} {fbs fop : Nat → Int64} {ftr : Nat → Int32} {ftn : Nat → Int64} {fca fma : Nat → Int32} {frk : Nat → Int64} (h : RepC P pfc pfe pfu fpl fmk ftk fbs fop ftr ftn fca fma frk) : ∀ a, a < pfe → B32 (fma a) (fun p => p < 8 ∧ P.mg a p = true) := h.2.2.2.2.2.2.2.2.2.2.2.2.1
theorem RepC.rk {P : Px} {pfc pfe : Nat} {pfu : Int32} {fpl fmk ftk : Nat → Int32} {fbs fop : Nat → Int64} {ftr : Nat → Int32} {ftn : Nat → Int64} {fca fma : Nat → Int32} {frk : Nat → Int64} (h : RepC P pfc pfe pfu fpl fmk ftk fbs fop ftr ftn fca fma frk) : ∀ a, a < pfe → frk a = lN (P.rk a) := h.2.2.2.2.2.2.2.2.2.2.2.2.2.1
theorem RepC.cu {P : Px} {pfc pfe : Nat} {pfu : Int32} {fpl fmk ftk : Nat → Int32} {fbs fop : Nat → Int64} {ftr : Nat → Int32} {ftn : Nat → Int64} {fca fma : Nat → Int32} {frk : Nat → Int64} (h : RepC P pfc pfe pfu fpl fmk ftk fbs fop ftr ftn fca fma frk) : B32 pfu (fun a => a < pfe ∧ P.ct a = true) := h.2.2.2.2.2.2.2.2.2.2.2.2.2.2
section REPC
variable {N : Net8} {P : Px} {pfc pfe : Nat} {pfu : Int32} {fpl fmk ftk : Nat → Int32} {fbs fop : Nat → Int64} {ftr : Nat → Int32} {ftn : Nat → Int64} {fca fma : Nat → Int32} {frk : Nat → Int64}
theorem RepC.cau (h : RepC P pfc pfe pfu fpl fmk ftk fbs fop ftr ftn fca fma frk) (hO : PxOk N P) : CauI pfc fmk fca P.bh := fun c hc => by
  rcases h.mak c hc with ⟨e, hm⟩ | ⟨a, ha, e, hm⟩
  · exact Or.inl ⟨e, fun f ⟨b, hb, _⟩ => by rw [hm] at hb; cases hb⟩
  · refine Or.inr ⟨a, ha, e, ?_⟩
    have := (hO.mkd c a hm).1
    refine (h.ca a (by rw [h.ne]; exact this)).congr fun f => ?_
    exact ⟨fun q => ⟨a, hm, q⟩, fun ⟨b, hb, q⟩ => by rw [hm] at hb; cases hb; exact q⟩
theorem RepC.bhlt (h : RepC P pfc pfe pfu fpl fmk ftk fbs fop ftr ftn fca fma frk) (hO : PxOk N P) : ∀ c f, c < pfc → P.bh c f → f < pfe := fun c f _ q => by rw [h.ne]; exact bh_lt hO q
/-- the rows of the events, one event more -/
theorem rep_ev {x : Ent} {fca1 : Nat → Int32} {m : Int64} {v : Int32} (h : RepC P pfc pfe pfu fpl fmk ftk fbs fop ftr ftn fca fma frk) (hO : PxOk N P) (hF : Fit N P x.1 x.2) (ht8 : x.1 < 8)
    (hca1 : ∀ j, j ≠ pfe → fca1 j = fca j) (hca2 : B32 (fca1 pfe) (fun f => (∃ c, c < pfc ∧ (c ∈ x.2 ∧ P.bh c f)) ∨ f = pfe)) (hm : B64 m (fun c => c ∈ x.2)) (hv : B32 v (fun p => p < 8 ∧ P.mkg N x p = true)) :
    TraI (pfe + 1) (upd ftr pfe (nI x.1)) (P.succ N x).tr ∧ (∀ a, a < pfe + 1 → B64 (vp_updL ftn pfe m a) (fun c => (P.succ N x).tk a c = true)) ∧ (∀ a, a < pfe + 1 → B32 (fca1 a) (fun f => (P.succ N x).cs a f = true)) ∧ (∀ a, a < pfe + 1 → B32 (upd fma pfe v a) (fun p => p < 8 ∧ (P.succ N x).mg a p = true)) ∧ ∀ a, a < pfe + 1 → vp_updL frk pfe (lN (P.rkv x)) a = lN ((P.succ N x).rk a) := by
  have pe : pfe = P.ne := h.ne
  have pc : pfc = P.nc := h.nc
  have tkn : ∀ a c, (P.succ N x).tkP a c ↔ (P.tkP a c ∨ (a = P.ne ∧ c ∈ x.2)) := fun a c => ext_tk hO a c
  refine ⟨?_, ?_, ?_, ?_, ?_⟩
  · intro a ha
    by_cases e : a = pfe
    · subst e
      rw [upd_at]
      have : (P.succ N x).tr a = x.1 := by show (if a < P.ne then _ else _) = _; rw [if_neg (by omega)]
      rw [this]; exact ⟨rfl, ht8⟩
    · rw [upd_ne e]
      have : (P.succ N x).tr a = P.tr a := by show (if a < P.ne then _ else _) = _; rw [if_pos (by omega)]
      rw [this]; exact h.tr a (by omega)
  · intro a ha
    by_cases e : a = pfe
    · rw [e, updL_at]
      refine hm.congr fun c => ?_
      have := tkn pfe c
      rw [pe] at this ⊢
      refine Iff.trans ?_ this.symm
      constructor
      · exact fun q => Or.inr ⟨rfl, q⟩
      · rintro (q | q)
        · have := (hO.tkd _ _ q).1; omega
        · exact q.2
    · rw [updL_ne e]
      refine (h.tn a (by omega)).congr fun c => ?_
      refine Iff.trans ?_ (tkn a c).symm
      exact ⟨Or.inl, fun q => q.elim id (fun r => by omega)⟩
  · intro a ha
    by_cases e : a = pfe
    · rw [e]
      refine hca2.congr fun f => ?_
      have := ext_cs_new (P := P) (t := x.1) (L := x.2) (k := P.cutB N x) (ps := plc (N.po x.1)) (mv := P.mkg N x) (rv := P.rkv x) f
      rw [pe]
      refine Iff.trans ?_ this.symm
      constructor
      · rintro (⟨c, -, h1, h2⟩ | q)
        · exact Or.inr ⟨c, h1, h2⟩
        · exact Or.inl q
      · rintro (q | ⟨c, h1, h2⟩)
        · exact Or.inr q
        · exact Or.inl ⟨c, by have := hF.dom c h1; omega, h1, h2⟩
    · rw [hca1 a e]
      refine (h.ca a (by omega)).congr fun f => ?_
      have : (P.succ N x).cs a f = P.cs a f := by show (if a < P.ne then _ else _) = _; rw [if_pos (by omega)]
      rw [this]
  · intro a ha
    by_cases e : a = pfe
    · rw [e, upd_at]
      refine hv.congr fun p => ?_
      have : (P.succ N x).mg pfe p = P.mkg N x p := by show (if pfe < P.ne then _ else _) = _; rw [if_neg (by omega)]
      rw [this]
    · rw [upd_ne e]
      refine (h.ma a (by omega)).congr fun p => ?_
      have : (P.succ N x).mg a p = P.mg a p := by show (if a < P.ne then _ else _) = _; rw [if_pos (by omega)]
      rw [this]
  · intro a ha
    by_cases e : a = pfe
    · rw [e, updL_at]
      have : (P.succ N x).rk pfe = P.rkv x := by show (if pfe < P.ne then _ else _) = _; rw [if_neg (by omega)]
      rw [this]
    · rw [updL_ne e]
      have : (P.succ N x).rk a = P.rk a := by show (if a < P.ne then _ else _) = _; rw [if_pos (by omega)]
      rw [this]; exact h.rk a (by omega)
/-- rows with one event more that is a cut-off -/
theorem rep_cut {x : Ent} {ftk1 fca1 : Nat → Int32} {m : Int64} {v : Int32} (h : RepC P pfc pfe pfu fpl fmk ftk fbs fop ftr ftn fca fma frk) (hO : PxOk N P) (hF : Fit N P x.1 x.2) (h30 : pfe < 30) (ht8 : x.1 < 8) (hk : P.cutB N x = true)
    (htk : TkE ftk ftk1 (fun c => c ∈ x.2) pfe pfc pfc) (hca1 : ∀ j, j ≠ pfe → fca1 j = fca j) (hca2 : B32 (fca1 pfe) (fun f => (∃ c, c < pfc ∧ (c ∈ x.2 ∧ P.bh c f)) ∨ f = pfe)) (hm : B64 m (fun c => c ∈ x.2)) (hv : B32 v (fun p => p < 8 ∧ P.mkg N x p = true)) :
    RepC (P.succ N x) pfc (pfe + 1) (pfu ||| (1 <<< (nI pfe &&& 31))) fpl fmk ftk1 fbs fop (upd ftr pfe (nI x.1)) (vp_updL ftn pfe m) fca1 (upd fma pfe v) (vp_updL frk pfe (lN (P.rkv x))) := by
  have enc : (P.succ N x).nc = pfc := by rw [h.nc]; show P.nc + (if P.cutB N x = true then 0 else _) = _; rw [if_pos hk]; rfl
  have pe : pfe = P.ne := h.ne
  have pc : pfc = P.nc := h.nc
  have mo : ∀ c, c < pfc → (P.succ N x).mo c = P.mo c := fun c hc => by show (if c < P.nc then _ else _) = _; rw [if_pos (by omega)]
  have tkn : ∀ a c, (P.succ N x).tkP a c ↔ (P.tkP a c ∨ (a = P.ne ∧ c ∈ x.2)) := fun a c => ext_tk hO a c
  have old : ∀ {α : Type} (f g : α) (a : Nat), a < pfe → (if a < P.ne then f else g) = f := fun f g a ha => if_pos (by omega)
  refine ⟨enc.symm, by rw [pe]; rfl, h.c60, by omega, ?_, ?_, ?_, ?_, ?_, ?_, ?_, ?_, ?_, ?_, ?_⟩
  · intro c hc
    have : (P.succ N x).pl c = P.pl c := by show (if c < P.nc then _ else _) = _; rw [if_pos (by omega)]
    rw [this]; exact h.pl c hc
  · intro c hc
    rw [mo c hc]; exact h.mak c hc
  · intro c hc
    refine (htk.1 c hc _ (h.tk c hc)).congr fun a => ?_
    rw [tkn a c, pe]
  · intro c hc
    refine (h.bs c hc).congr fun d => ?_
    refine and_congr_right fun hd => ?_
    rw [Px.co_iff, Px.co_iff]
    refine and_congr_right fun _ => ?_
    exact (ext_tog_old hO (by omega) (by omega)).symm
  · intro p hp
    refine (h.op p hp).congr fun c => and_congr_right fun hc => ?_
    have : (P.succ N x).pl c = P.pl c := by show (if c < P.nc then _ else _) = _; rw [if_pos (by omega)]
    rw [this]
  · intro a ha
    by_cases e : a = pfe
    · subst e
      rw [upd_at]
      have : (P.succ N x).tr a = x.1 := by show (if a < P.ne then _ else _) = _; rw [if_neg (by omega)]
      rw [this]; exact ⟨rfl, ht8⟩
    · rw [upd_ne e]
      have : (P.succ N x).tr a = P.tr a := by show (if a < P.ne then _ else _) = _; rw [if_pos (by omega)]
      rw [this]; exact h.tr a (by omega)
  · intro a ha
    by_cases e : a = pfe
    · rw [e, updL_at]
      refine hm.congr fun c => ?_
      have := tkn pfe c
      rw [pe] at this ⊢
      refine Iff.trans ?_ this.symm
      constructor
      · exact fun q => Or.inr ⟨rfl, q⟩
      · rintro (q | q)
        · have := (hO.tkd _ _ q).1; omega
        · exact q.2
    · rw [updL_ne e]
      refine (h.tn a (by omega)).congr fun c => ?_
      refine Iff.trans ?_ (tkn a c).symm
      exact ⟨Or.inl, fun q => q.elim id (fun r => by omega)⟩
  · intro a ha
    by_cases e : a = pfe
    · rw [e]
      refine hca2.congr fun f => ?_
      have := ext_cs_new (P := P) (t := x.1) (L := x.2) (k := P.cutB N x) (ps := plc (N.po x.1)) (mv := P.mkg N x) (rv := P.rkv x) f
      rw [pe]
      refine Iff.trans ?_ this.symm
      constructor
      · rintro (⟨c, -, h1, h2⟩ | q)
        · exact Or.inr ⟨c, h1, h2⟩
        · exact Or.inl q
      · rintro (q | ⟨c, h1, h2⟩)
        · exact Or.inr q
        · exact Or.inl ⟨c, by have := hF.dom c h1; omega, h1, h2⟩
    · rw [hca1 a e]
      refine (h.ca a (by omega)).congr fun f => ?_
      have : (P.succ N x).cs a f = P.cs a f := by show (if a < P.ne then _ else _) = _; rw [if_pos (by omega)]
      rw [this]
  · intro a ha
    by_cases e : a = pfe
    · rw [e, upd_at]
      refine hv.congr fun p => ?_
      have : (P.succ N x).mg pfe p = P.mkg N x p := by show (if pfe < P.ne then _ else _) = _; rw [if_neg (by omega)]
      rw [this]
    · rw [upd_ne e]
      refine (h.ma a (by omega)).congr fun p => ?_
      have : (P.succ N x).mg a p = P.mg a p := by show (if a < P.ne then _ else _) = _; rw [if_pos (by omega)]
      rw [this]
  · intro a ha
    by_cases e : a = pfe
    · rw [e, updL_at]
      have : (P.succ N x).rk pfe = P.rkv x := by show (if pfe < P.ne then _ else _) = _; rw [if_neg (by omega)]
      rw [this]
    · rw [updL_ne e]
      have : (P.succ N x).rk a = P.rk a := by show (if a < P.ne then _ else _) = _; rw [if_pos (by omega)]
      rw [this]; exact h.rk a (by omega)
  · refine (h.cu.or (B32.bit (by omega))).congr fun a => ?_
    have ct : ∀ a, (P.succ N x).ct a = if a < P.ne then P.ct a else P.cutB N x := fun a => rfl
    rw [ct a]
    constructor
    · rintro (⟨q1, q2⟩ | q)
      · rw [if_pos (by omega)]; exact ⟨by omega, q2⟩
      · rw [if_neg (by omega)]; exact ⟨by omega, hk⟩
    · rintro ⟨q1, q2⟩
      by_cases e : a = pfe
      · exact Or.inr e
      · rw [if_pos (by omega)] at q2; exact Or.inl ⟨by omega, q2⟩
/-- rows with one event more, and what it makes -/
theorem rep_full {x : Ent} {ftk1 ftk2 fca1 fpl1 fmk1 : Nat → Int32} {fbs1 fop1 : Nat → Int64} {m : Int64} {v : Int32} {n pfc1 : Nat} (h : RepC P pfc pfe pfu fpl fmk ftk fbs fop ftr ftn fca fma frk) (hO : PxOk N P) (hF : Fit N P x.1 x.2) (h30 : pfe < 30) (ht8 : x.1 < 8) (hk : P.cutB N x = false) (hn : n < 256) (hpo : plc (N.po x.1) = psN n) (hroom : pfc + bC n 8 ≤ 60)
    (htk : TkE ftk ftk1 (fun c => c ∈ x.2) pfe pfc pfc) (hca1 : ∀ j, j ≠ pfe → fca1 j = fca j) (hca2 : B32 (fca1 pfe) (fun f => (∃ c, c < pfc ∧ (c ∈ x.2 ∧ P.bh c f)) ∨ f = pfe)) (hm : B64 m (fun c => c ∈ x.2)) (hv : B32 v (fun p => p < 8 ∧ P.mkg N x p = true))
    (hc1 : pfc1 = pfc + bC n 8) (hPl : PlA fpl fpl1 pfc n 8) (hMk : CoA fmk fmk1 (nI pfe) pfc n 8) (hTk : CoA ftk1 ftk2 0 pfc n 8) (hOp : OpA fop1 (fun p c => c < pfc ∧ P.pl c = p) pfc n 8)
    (hBs : BsA fbs1 pfc pfc1 (fun f => f < pfc ∧ ∀ c, c < pfc → (c ∈ x.2 → (f < pfc ∧ P.co c f = true))) (fun c d => d < pfc ∧ P.co c d = true) pfc1) :
    RepC (P.succ N x) pfc1 (pfe + 1) pfu fpl1 fmk1 ftk2 fbs1 fop1 (upd ftr pfe (nI x.1)) (vp_updL ftn pfe m) fca1 (upd fma pfe v) (vp_updL frk pfe (lN (P.rkv x))) := by
  have pe : pfe = P.ne := h.ne
  have pc : pfc = P.nc := h.nc
  have plen : (psN n).length = bC n 8 := psN_len n hn
  have enc : (P.succ N x).nc = pfc1 := by
    show P.nc + (if P.cutB N x = true then 0 else (plc (N.po x.1)).length) = _
    rw [hk, hpo, plen, hc1, pc]; rfl
  have tkn : ∀ a c, (P.succ N x).tkP a c ↔ (P.tkP a c ∨ (a = P.ne ∧ c ∈ x.2)) := fun a c => ext_tk hO a c
  have plo : ∀ c, c < pfc → (P.succ N x).pl c = P.pl c := fun c hc => by show (if c < P.nc then _ else _) = _; rw [if_pos (by omega)]
  have pln : ∀ j, (P.succ N x).pl (pfc + j) = (psN n).getD j 0 := fun j => by
    show (if pfc + j < P.nc then _ else (plc (N.po x.1)).getD (pfc + j - P.nc) 0) = _
    rw [if_neg (by omega), hpo, show pfc + j - P.nc = j from by omega]
  have mon : ∀ j, j < bC n 8 → (P.succ N x).mo (pfc + j) = some pfe := fun j hj => by
    show (if pfc + j < P.nc then P.mo _ else if P.cutB N x = false ∧ pfc + j < P.nc + (plc (N.po x.1)).length then some P.ne else none) = _
    rw [if_neg (by omega), if_pos ⟨hk, by rw [hpo, plen]; omega⟩, pe]
  have split : ∀ c, c < pfc1 → c < pfc ∨ ∃ j, j < bC n 8 ∧ c = pfc + j := fun c hc => by
    by_cases q : c < pfc
    · exact Or.inl q
    · exact Or.inr ⟨c - pfc, by omega, by omega⟩
  obtain ⟨v1, v2, v3, v4, v5⟩ := rep_ev h hO hF ht8 hca1 hca2 hm hv
  have zz : ∀ d, d < pfc → ((d < pfc ∧ ∀ c, c < pfc → (c ∈ x.2 → (d < pfc ∧ P.co c d = true))) ↔ ∀ z, z ∈ x.2 → z ≠ d ∧ P.tog z d) := fun d hd => by
    constructor
    · rintro ⟨-, q⟩ z hz
      exact (P.co_iff z d).mp (q z (by have := hF.dom z hz; omega) hz).2
    · exact fun q => ⟨hd, fun c _ hc => ⟨hd, (P.co_iff c d).mpr (q c hc)⟩⟩
  have tn : ∀ c d, pfc ≤ c → c < pfc1 → d < pfc → ((P.succ N x).tog c d ↔ ∀ z, z ∈ x.2 → z ≠ d ∧ P.tog z d) := fun c d h1 h2 h3 =>
    ext_tog_new hO hF hk (by omega) (by rw [hpo, plen]; omega) (by omega)
  refine ⟨enc.symm, by rw [pe]; rfl, by omega, by omega, ?_, ?_, ?_, ?_, ?_, v1, v2, v3, v4, v5, ?_⟩
  · intro c hc
    rcases split c hc with q | ⟨j, hj, rfl⟩
    · rw [plo c q, hPl.1 c q]; exact h.pl c q
    · rw [pln j, hPl.2 j hj]
      refine ⟨rfl, ?_⟩
      have : (psN n).getD j 0 ∈ psN n := by
        rw [List.getD_eq_getElem?_getD, List.getElem?_eq_getElem (by omega)]
        exact List.getElem_mem _
      exact List.mem_range.mp (List.mem_filter.mp this).1
  · intro c hc
    rcases split c hc with q | ⟨j, hj, rfl⟩
    · have : (P.succ N x).mo c = P.mo c := by show (if c < P.nc then _ else _) = _; rw [if_pos (by omega)]
      rw [this, hMk.1 c q]; exact h.mak c q
    · rw [mon j hj, hMk.2 j hj]
      exact Or.inr ⟨pfe, h30, rfl, rfl⟩
  · intro c hc
    rcases split c hc with q | ⟨j, hj, rfl⟩
    · rw [hTk.1 c q]
      refine (htk.1 c q _ (h.tk c q)).congr fun a => ?_
      rw [tkn a c, pe]
    · rw [hTk.2 j hj]
      refine B32.zero.congr fun a => ⟨False.elim, fun r => ?_⟩
      rcases (tkn a _).mp r with r | ⟨-, r⟩
      · have := (hO.tkd a _ r).2; omega
      · have := hF.dom _ r; omega
  · intro c hc
    refine (hBs.1 c hc).congr fun d => ?_
    show ((c < pfc ∧ ((d < pfc ∧ P.co c d = true) ∨ ((c < pfc ∧ ∀ z, z < pfc → (z ∈ x.2 → (c < pfc ∧ P.co z c = true))) ∧ pfc ≤ d ∧ d < pfc1))) ∨ (pfc ≤ c ∧ ((d < pfc ∧ ∀ z, z < pfc → (z ∈ x.2 → (d < pfc ∧ P.co z d = true))) ∨ (pfc ≤ d ∧ d < pfc1)) ∧ d ≠ c)) ↔ (d < pfc1 ∧ (P.succ N x).co c d = true)
    rw [Px.co_iff (P.succ N x) c d]
    by_cases q : c < pfc
    · by_cases r : d < pfc
      · constructor
        · rintro (⟨-, (w | w)⟩ | w)
          · refine ⟨by omega, ?_⟩
            have := (P.co_iff c d).mp w.2
            exact ⟨this.1, (ext_tog_old hO (by omega) (by omega)).mpr this.2⟩
          · omega
          · omega
        · rintro ⟨-, w1, w2⟩
          exact Or.inl ⟨q, Or.inl ⟨r, (P.co_iff c d).mpr ⟨w1, (ext_tog_old hO (by omega) (by omega)).mp w2⟩⟩⟩
      · constructor
        · rintro (⟨-, (w | w)⟩ | w)
          · omega
          · exact ⟨w.2.2, by omega, ((tn d c (by omega) w.2.2 q).mpr ((zz c q).mp w.1)).symm⟩
          · omega
        · rintro ⟨w0, w1, w2⟩
          exact Or.inl ⟨q, Or.inr ⟨(zz c q).mpr ((tn d c (by omega) w0 q).mp w2.symm), by omega, w0⟩⟩
    · by_cases r : d < pfc
      · constructor
        · rintro (w | ⟨-, (w | w), w3⟩)
          · omega
          · exact ⟨by omega, fun e => w3 e.symm, (tn c d (by omega) hc r).mpr ((zz d r).mp w)⟩
          · omega
        · rintro ⟨w0, w1, w2⟩
          exact Or.inr ⟨by omega, Or.inl ((zz d r).mpr ((tn c d (by omega) hc r).mp w2)), fun e => w1 e.symm⟩
      · constructor
        · rintro (w | ⟨-, (w | w), w3⟩)
          · omega
          · omega
          · exact ⟨w.2, fun e => w3 e.symm, ext_tog_both hO hF hk (by omega) (by rw [hpo, plen]; omega) (by omega) (by rw [hpo, plen]; omega)⟩
        · rintro ⟨w0, w1, -⟩
          exact Or.inr ⟨by omega, Or.inr ⟨by omega, w0⟩, fun e => w1 e.symm⟩
  · intro p hp
    refine (hOp p hp).congr fun c => ?_
    constructor
    · rintro (⟨q1, q2⟩ | ⟨-, q2, q3⟩)
      · exact ⟨by omega, by rw [plo c q1]; exact q2⟩
      · have hb := bC_mono n (i := p + 1) (k := 8) (by omega)
        rw [bC_s, bN_1 q2] at hb
        exact ⟨by omega, by rw [q3, pln]; exact psN_get n hn p hp q2⟩
    · rintro ⟨q1, q2⟩
      rcases split c q1 with q | ⟨j, hj, rfl⟩
      · exact Or.inl ⟨q, by rw [← plo c q]; exact q2⟩
      · rw [pln j] at q2
        have hm' : (psN n).getD j 0 ∈ psN n := by
          rw [List.getD_eq_getElem?_getD, List.getElem?_eq_getElem (by omega)]
          exact List.getElem_mem _
        rw [q2] at hm'
        have hb : n.testBit p = true := (List.mem_filter.mp hm').2
        refine Or.inr ⟨hp, hb, ?_⟩
        have hbp := bC_mono n (i := p + 1) (k := 8) (by omega)
        rw [bC_s, bN_1 hb] at hbp
        have g1 := psN_get n hn p hp hb
        -- both stand where p stands
        have nd : (psN n).Nodup := List.nodup_range.filter _
        rw [List.getD_eq_getElem?_getD, List.getElem?_eq_getElem (by omega)] at g1 q2
        have e : (psN n)[j]'(by omega) = (psN n)[bC n p]'(by omega) := by
          have e1 : (psN n)[j]'(by omega) = p := by simpa using q2
          have e2 : (psN n)[bC n p]'(by omega) = p := by simpa using g1
          rw [e1, e2]
        have := (List.getElem_inj nd).mp e
        omega
  · refine h.cu.congr fun a => ?_
    have ct : ∀ a, (P.succ N x).ct a = if a < P.ne then P.ct a else P.cutB N x := fun a => rfl
    rw [ct a]
    constructor
    · rintro ⟨q1, q2⟩
      rw [if_pos (by omega)]; exact ⟨by omega, q2⟩
    · rintro ⟨q1, q2⟩
      by_cases e : a = pfe
      · rw [if_neg (by omega), hk] at q2; cases q2
      · rw [if_pos (by omega)] at q2; exact ⟨by omega, q2⟩
end REPC
