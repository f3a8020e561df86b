/-! One event more. -/
def Px.ext (P : Px) (t : Nat) (L : List Nat) (k : Bool) (ps : List Nat) (mv : Nat → Bool) (rv : Nat) : Px := Px.mk (P.nc + (if k = true then 0 else ps.length)) (P.ne + 1) (fun c => if c < P.nc then P.pl c else ps.getD (c - P.nc) 0) (fun c => if c < P.nc then P.mo c else if k = false ∧ c < P.nc + ps.length then some P.ne else none) (fun a => if a < P.ne then P.tr a else t) (fun a c => if a < P.ne then P.tk a c else (decide (a = P.ne) && L.contains c)) (fun a f => if a < P.ne then P.cs a f else (decide (a = P.ne) && (decide (f = P.ne) || L.any (fun c => match P.mo c with | none => false | some b => P.cs b f)))) (fun a => if a < P.ne then P.ct a else k) (fun a p => if a < P.ne then P.mg a p else mv p) (fun a => if a < P.ne then P.rk a else rv)
section EXT
variable {N : Net8} {P : Px} {t : Nat} {L ps : List Nat} {k : Bool} {mv : Nat → Bool} {rv : Nat}
theorem ext_tk (h : PxOk N P) (a c : Nat) : (P.ext t L k ps mv rv).tkP a c ↔ (P.tkP a c ∨ (a = P.ne ∧ c ∈ L)) := by
  show (if a < P.ne then P.tk a c else (decide (a = P.ne) && L.contains c)) = true ↔ _
  by_cases ha : a < P.ne
  · rw [if_pos ha]
    constructor
    · exact fun q => Or.inl q
    · rintro (q | ⟨q, -⟩)
      · exact q
      · omega
  · rw [if_neg ha]
    constructor
    · intro q
      simp only [Bool.and_eq_true, decide_eq_true_eq, List.contains_iff_mem] at q
      exact Or.inr q
    · rintro (q | ⟨q1, q2⟩)
      · exact absurd (h.tkd a c q).1 ha
      · simp [q1, q2]
theorem ext_bh_old (h : PxOk N P) {c : Nat} (hc : c < P.nc) (f : Nat) : (P.ext t L k ps mv rv).bh c f ↔ P.bh c f := by
  constructor
  · rintro ⟨a, ha, hf⟩
    have ha' : P.mo c = some a := by simpa [Px.ext, Px.mk_mo, hc] using ha
    have := (h.mkd c a ha').1
    exact ⟨a, ha', by simpa [Px.ext, Px.mk_cs, this] using hf⟩
  · rintro ⟨a, ha, hf⟩
    have := (h.mkd c a ha).1
    exact ⟨a, by simpa [Px.ext, Px.mk_mo, hc] using ha, by simpa [Px.ext, Px.mk_cs, this] using hf⟩
theorem ext_any (f : Nat) : L.any (fun c => match P.mo c with | none => false | some b => P.cs b f) = true ↔ ∃ x, x ∈ L ∧ P.bh x f := by
  rw [List.any_eq_true]
  constructor
  · rintro ⟨x, hx, q⟩
    refine ⟨x, hx, ?_⟩
    cases e : P.mo x with
    | none => rw [e] at q; cases q
    | some b => rw [e] at q; exact ⟨b, e, q⟩
  · rintro ⟨x, hx, b, e, q⟩
    exact ⟨x, hx, by rw [e]; exact q⟩
theorem ext_cs_new (f : Nat) : (P.ext t L k ps mv rv).cs P.ne f = true ↔ (f = P.ne ∨ ∃ x, x ∈ L ∧ P.bh x f) := by
  show (if P.ne < P.ne then _ else _) = true ↔ _
  rw [if_neg (Nat.lt_irrefl _)]
  simp only [decide_true, Bool.true_and, Bool.or_eq_true, decide_eq_true_eq]
  rw [ext_any]
theorem ext_bh_new (hk : k = false) {c : Nat} (hc : P.nc ≤ c) (hc2 : c < P.nc + ps.length) (f : Nat) : (P.ext t L k ps mv rv).bh c f ↔ (f = P.ne ∨ ∃ x, x ∈ L ∧ P.bh x f) := by
  rw [← ext_cs_new (t := t) (k := k) (ps := ps) (mv := mv) (rv := rv)]
  have hm : (P.ext t L k ps mv rv).mo c = some P.ne := by
    show (if c < P.nc then P.mo c else if k = false ∧ c < P.nc + ps.length then some P.ne else none) = some P.ne
    rw [if_neg (by omega), if_pos ⟨hk, hc2⟩]
  constructor
  · rintro ⟨a, ha, hf⟩
    rw [hm] at ha; cases ha; exact hf
  · intro hf
    exact ⟨P.ne, hm, hf⟩
theorem bh_lt (h : PxOk N P) {c f : Nat} (hf : P.bh c f) : f < P.ne := by
  obtain ⟨a, ha, hf⟩ := hf
  exact Nat.lt_of_le_of_lt (h.cs_le a f hf) (h.mkd c a ha).1
theorem ext_tog_old (h : PxOk N P) {c d : Nat} (hc : c < P.nc) (hd : d < P.nc) : (P.ext t L k ps mv rv).tog c d ↔ P.tog c d := by
  have e1 : ∀ f, ((P.ext t L k ps mv rv).bh c f ∨ (P.ext t L k ps mv rv).bh d f) ↔ (P.bh c f ∨ P.bh d f) := fun f => by rw [ext_bh_old h hc, ext_bh_old h hd]
  have e2 : ∀ f, (P.bh c f ∨ P.bh d f) → ∀ y, (P.ext t L k ps mv rv).tkP f y ↔ P.tkP f y := fun f hf y => by
    have : f < P.ne := hf.elim (bh_lt h) (bh_lt h)
    rw [ext_tk h]
    constructor
    · rintro (q | ⟨q, -⟩)
      · exact q
      · omega
    · exact Or.inl
  constructor
  · rintro ⟨h1, h2⟩
    exact ⟨fun f g y hf hg hfy hgy => h1 f g y ((e1 f).mpr hf) ((e1 g).mpr hg) ((e2 f hf y).mpr hfy) ((e2 g hg y).mpr hgy), fun f hf => ⟨fun q => (h2 f ((e1 f).mpr hf)).1 ((e2 f hf c).mpr q), fun q => (h2 f ((e1 f).mpr hf)).2 ((e2 f hf d).mpr q)⟩⟩
  · rintro ⟨h1, h2⟩
    exact ⟨fun f g y hf hg hfy hgy => h1 f g y ((e1 f).mp hf) ((e1 g).mp hg) ((e2 f ((e1 f).mp hf) y).mp hfy) ((e2 g ((e1 g).mp hg) y).mp hgy), fun f hf => ⟨fun q => (h2 f ((e1 f).mp hf)).1 ((e2 f ((e1 f).mp hf) c).mp q), fun q => (h2 f ((e1 f).mp hf)).2 ((e2 f ((e1 f).mp hf) d).mp q)⟩⟩
/-- what may come next -/
def Fit (N : Net8) (P : Px) (t : Nat) (L : List Nat) : Prop := (t < N.nz) ∧ (∀ x ∈ L, x < P.nc) ∧ (∀ x ∈ L, ∀ y ∈ L, P.tog x y) ∧ (∀ p, (∃ x, x ∈ L ∧ P.pl x = p) ↔ (p < 8 ∧ N.pr t p = true)) ∧ (L ≠ [])
theorem Fit.tz {N : Net8} {P : Px} {t : Nat} {L : List Nat} (h : Fit N P t L) : t < N.nz := h.1
theorem Fit.dom {N : Net8} {P : Px} {t : Nat} {L : List Nat} (h : Fit N P t L) : ∀ x ∈ L, x < P.nc := h.2.1
theorem Fit.tog {N : Net8} {P : Px} {t : Nat} {L : List Nat} (h : Fit N P t L) : ∀ x ∈ L, ∀ y ∈ L, P.tog x y := h.2.2.1
theorem Fit.pre {N : Net8} {P : Px} {t : Nat} {L : List Nat} (h : Fit N P t L) : ∀ p, (∃ x, x ∈ L ∧ P.pl x = p) ↔ (p < 8 ∧ N.pr t p = true) := h.2.2.2.1
theorem Fit.ne0 {N : Net8} {P : Px} {t : Nat} {L : List Nat} (h : Fit N P t L) : L ≠ [] := h.2.2.2.2
theorem ext_tog_new (h : PxOk N P) (hF : Fit N P t L) (hk : k = false) {c d : Nat} (hc : P.nc ≤ c) (hc2 : c < P.nc + ps.length) (hd : d < P.nc) : (P.ext t L k ps mv rv).tog c d ↔ ∀ x, x ∈ L → x ≠ d ∧ P.tog x d := by
  have hnew : ∀ f, ¬ (P.ext t L k ps mv rv).tkP f c := fun f q => by
    rcases (ext_tk h f c).mp q with q | ⟨-, q⟩
    · have := (h.tkd f c q).2; omega
    · have := hF.dom c q; omega
  have := tog_old (bh := (P.ext t L k ps mv rv).bh) (tk := (P.ext t L k ps mv rv).tkP) (T := fun x => x ∈ L) (a := P.ne) (c := c) (d := d)
    (List.exists_mem_of_ne_nil _ hF.ne0)
    (fun x y hx hy => (ext_tog_old h (hF.dom x hx) (hF.dom y hy)).mpr (hF.tog x hx y hy))
    (fun y => by
      rw [ext_tk h]
      constructor
      · rintro (q | ⟨-, q⟩)
        · have := (h.tkd _ _ q).1; omega
        · exact q
      · exact fun q => Or.inr ⟨rfl, q⟩)
    (fun f => by
      rw [ext_bh_new hk hc hc2]
      constructor
      · rintro (q | ⟨x, hx, q⟩)
        · exact Or.inl q
        · exact Or.inr ⟨x, hx, (ext_bh_old h (hF.dom x hx) f).mpr q⟩
      · rintro (q | ⟨x, hx, q⟩)
        · exact Or.inl q
        · exact Or.inr ⟨x, hx, (ext_bh_old h (hF.dom x hx) f).mp q⟩)
    hnew
    (fun x hx q => by have := bh_lt h ((ext_bh_old h (hF.dom x hx) _).mp q); omega)
    (fun q => by have := bh_lt h ((ext_bh_old h hd _).mp q); omega)
    ((ext_tog_old h hd hd).mpr (h.self d hd))
  refine this.trans ⟨fun q x hx => ⟨(q x hx).1, (ext_tog_old h (hF.dom x hx) hd).mp (q x hx).2⟩, fun q x hx => ⟨(q x hx).1, (ext_tog_old h (hF.dom x hx) hd).mpr (q x hx).2⟩⟩
theorem ext_tog_both (h : PxOk N P) (hF : Fit N P t L) (hk : k = false) {c d : Nat} (hc : P.nc ≤ c) (hc2 : c < P.nc + ps.length) (hd : P.nc ≤ d) (hd2 : d < P.nc + ps.length) : (P.ext t L k ps mv rv).tog c d := by
  have hnew : ∀ z, P.nc ≤ z → ∀ f, ¬ (P.ext t L k ps mv rv).tkP f z := fun z hz f q => by
    rcases (ext_tk h f z).mp q with q | ⟨-, q⟩
    · have := (h.tkd f z q).2; omega
    · have := hF.dom z q; omega
  have hb : ∀ z, P.nc ≤ z → z < P.nc + ps.length → ∀ f, (P.ext t L k ps mv rv).bh z f ↔ (f = P.ne ∨ ∃ x, x ∈ L ∧ (P.ext t L k ps mv rv).bh x f) := fun z hz hz2 f => by
    rw [ext_bh_new hk hz hz2]
    constructor
    · rintro (q | ⟨x, hx, q⟩)
      · exact Or.inl q
      · exact Or.inr ⟨x, hx, (ext_bh_old h (hF.dom x hx) f).mpr q⟩
    · rintro (q | ⟨x, hx, q⟩)
      · exact Or.inl q
      · exact Or.inr ⟨x, hx, (ext_bh_old h (hF.dom x hx) f).mp q⟩
  exact tog_new (T := fun x => x ∈ L) (a := P.ne)
    (fun x y hx hy => (ext_tog_old h (hF.dom x hx) (hF.dom y hy)).mpr (hF.tog x hx y hy))
    (fun y => by
      rw [ext_tk h]
      constructor
      · rintro (q | ⟨-, q⟩)
        · have := (h.tkd _ _ q).1; omega
        · exact q
      · exact fun q => Or.inr ⟨rfl, q⟩)
    (hb c hc hc2) (hb d hd hd2) (hnew c hc) (hnew d hd)
end EXT
