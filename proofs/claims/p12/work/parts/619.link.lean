/-! Ranks, entries and markings: the class's words are the prefix's. -/
section LINK
variable {N : Net8} {P : Px}
theorem beh_X (hO : PxOk N P) (L : List Nat) (f : Nat) : P.beh L f ↔ ∃ c, c < P.nc ∧ (c ∈ L ∧ P.bh c f) := by
  constructor
  · rintro ⟨x, hx, a, ha, q⟩
    exact ⟨x, (hO.mkd x a ha).2, hx, a, ha, q⟩
  · rintro ⟨x, -, hx, q⟩
    exact ⟨x, hx, q⟩
theorem cU_X {X : Nat → Prop} (t : Nat) (L : List Nat) (u : Nat) (h : ∀ f, P.beh L f ↔ X f) : P.cU t L u = cuX X P.tr t P.ne u := by
  unfold Px.cU cuX cnt
  congr 2
  refine List.filter_congr fun f _ => ?_
  apply Bool.eq_iff_iff.mpr
  simp only [decide_eq_true_eq]
  rw [bP_iff, h f]
theorem sz_X {X : Nat → Prop} (L : List Nat) (h : ∀ f, P.beh L f ↔ X f) : P.sz L = szX X P.ne := by
  unfold Px.sz szX cnt
  congr 1
  refine List.filter_congr fun f _ => ?_
  apply Bool.eq_iff_iff.mpr
  simp only [decide_eq_true_eq]
  rw [bP_iff, h f]
theorem rkv_X {X : Nat → Prop} (t : Nat) (L : List Nat) (h : ∀ f, P.beh L f ↔ X f) : P.rkv (t, L) = keyX X P.tr t P.ne (szX X P.ne + 1) 8 := by
  unfold Px.rkv keyX
  rw [sz_X L h]
  congr 2
  funext u
  exact cU_X t L u h
theorem rkv_lt (h30 : P.ne ≤ 30) (x : Ent) : P.rkv x < 2 ^ 46 := by
  rw [show P.rkv x = _ from rkv_X (X := P.beh x.2) x.1 x.2 (fun _ => Iff.rfl)]
  have h1 : szX (P.beh x.2) P.ne ≤ 30 := Nat.le_trans (cnt_le _ _) h30
  have := keyX_lt (X := P.beh x.2) (tr := P.tr) (k := x.1) (n := P.ne) (s := szX (P.beh x.2) P.ne + 1) (i := 8) (by omega) (Nat.le_refl 8)
  omega
/-- an old choice keeps its rank -/
theorem rkv_ext (hO : PxOk N P) {t0 : Nat} {L0 ps : List Nat} {k : Bool} {mv : Nat → Bool} {rv : Nat} {y : Ent} (hy : ∀ c ∈ y.2, c < P.nc) : (P.ext t0 L0 k ps mv rv).rkv y = P.rkv y := by
  have hb : ∀ f, (P.ext t0 L0 k ps mv rv).beh y.2 f ↔ P.beh y.2 f := fun f => by
    constructor
    · rintro ⟨x, hx, q⟩; exact ⟨x, hx, (ext_bh_old hO (hy x hx) f).mp q⟩
    · rintro ⟨x, hx, q⟩; exact ⟨x, hx, (ext_bh_old hO (hy x hx) f).mpr q⟩
  have hlt : ∀ f, P.beh y.2 f → f < P.ne := fun f ⟨x, _, q⟩ => bh_lt hO q
  have e1 : (P.ext t0 L0 k ps mv rv).sz y.2 = P.sz y.2 := by
    rw [sz_X y.2 hb, sz_X y.2 (fun _ => Iff.rfl)]
    show szX _ (P.ne + 1) = _
    unfold szX
    rw [cnt_succ, if_neg (fun q => by have := hlt _ (bP_iff.mp q); omega), Nat.add_zero]
  have e2 : ∀ u, (P.ext t0 L0 k ps mv rv).cU y.1 y.2 u = P.cU y.1 y.2 u := fun u => by
    rw [cU_X y.1 y.2 u hb, cU_X y.1 y.2 u (fun _ => Iff.rfl)]
    show cuX _ _ _ (P.ne + 1) _ = _
    rw [cuX_n (fun q => by have := hlt _ q.1; omega)]
    unfold cuX
    congr 1
    refine cnt_congr fun f hf => ?_
    apply Bool.eq_iff_iff.mpr
    rw [bP_iff, bP_iff]
    have : (P.ext t0 L0 k ps mv rv).tr f = P.tr f := by show (if f < P.ne then _ else _) = _; rw [if_pos hf]
    rw [this]
  unfold Px.rkv
  rw [e1, show (P.ext t0 L0 k ps mv rv).cU y.1 y.2 = P.cU y.1 y.2 from funext e2]
theorem PosI.rk_congr {l : List Ent} {otr : Nat → Int32} {otn ork : Nat → Int64} {rk rk' : Ent → Nat} (h : PosI l otr otn ork rk) (e : ∀ z ∈ l, rk z = rk' z) : PosI l otr otn ork rk' := fun i hi => by
  obtain ⟨h1, h2, h3⟩ := h i hi
  exact ⟨h1, h2, by rw [h3, e _ (List.getElem_mem hi)]⟩
theorem PoR.rk_congr {l : List Ent} {oz : Nat} {otr : Nat → Int32} {otn ork : Nat → Int64} {rk rk' : Ent → Nat} (h : PoR l oz otr otn ork rk) (e : ∀ z ∈ l, rk z = rk' z) : PoR l oz otr otn ork rk' := by
  rcases h with ⟨h1, h2, h3⟩ | h
  · exact Or.inl ⟨h1, h2, h3.rk_congr e⟩
  · exact Or.inr h
theorem plc_sorted (f : Nat → Bool) : (plc f).Pairwise (· < ·) := List.pairwise_lt_range.filter _
theorem poss_ent {x : Ent} (hx : x ∈ P.poss N) : EntI P.pl (fun t => plc (N.pr t)) P.nc x := by
  obtain ⟨-, h2, -⟩ := poss_mem.mp hx
  exact ⟨chs_pl h2, plc_sorted _, fun p hp => (plc_mem.mp hp).1, fun c hc => (chF_mem h2 c hc).1⟩
theorem poss_fit (hN : NetOk N) (hO : PxOk N P) {x : Ent} (hx : x ∈ P.poss N) : Fit N P x.1 x.2 := by
  obtain ⟨h1, h2, -⟩ := poss_mem.mp hx
  exact chs_fit hN hO h1 h2
/-- the least entry of the row is the next event -/
theorem best_of {el : List Ent} (hp : el.Perm (P.poss N)) {k : Nat} (hk : k < el.length) (h : ∀ j (hj : j < el.length), ¬ befR P.rkv (el[j]) (el[k])) : P.best N (el[k]) := by
  refine ⟨hp.mem_iff.mp (List.getElem_mem hk), fun y hy => ?_⟩
  rcases bef_total (hp.mem_iff.mp (List.getElem_mem hk)) hy with e | q | q
  · exact Or.inl e.symm
  · exact Or.inr q
  · obtain ⟨j, hj, e⟩ := List.mem_iff_getElem.mp (hp.mem_iff.mpr hy)
    exact absurd (e ▸ q) (h j hj)
def FPL (pr : Nat → Nat → Bool) (pl : Nat → Nat) (co : Nat → Nat → Bool) (nc : Nat) (op fr : Nat → Bool) (i : Nat) : List Ent := (List.range i).flatMap (fun t => NW t [] fr (chF (pr t) pl co nc 8 op))
theorem FPL_s {pr : Nat → Nat → Bool} {pl : Nat → Nat} {co : Nat → Nat → Bool} {nc : Nat} {op fr : Nat → Bool} {i : Nat} : FPL pr pl co nc op fr (i + 1) = FPL pr pl co nc op fr i ++ NW i [] fr (chF (pr i) pl co nc 8 op) := by
  unfold FPL
  rw [List.range_succ, List.flatMap_append]
  simp
theorem NW_nil {t : Nat} {fr : Nat → Bool} {l : List (List Nat)} : NW t [] fr l = (l.filter (fun L => L.any fr)).map (fun L => (t, L)) := by
  unfold NW; simp
/-- behind an event: the entries that are left, and those found -/
theorem succ_perm (hN : NetOk N) (hO : PxOk N P) {x : Ent} (hx : x ∈ P.poss N) {el m : List Ent} (hp : el.Perm (P.poss N)) (hm : el.Perm (x :: m)) (op : Nat → Bool) (hop : ∀ c, c < (P.succ N x).nc → op c = P.fromB x.2 c) :
    (m ++ FPL N.pr (P.succ N x).pl (P.succ N x).co (P.succ N x).nc op (freshB P.nc (P.succ N x).nc) N.nz).Perm ((P.succ N x).poss N) := by
  classical
  obtain ⟨h1, h2, h3⟩ := poss_mem.mp hx
  have hq := ext_poss (N := N) (P := P) (t0 := x.1) (L0 := x.2) (k := P.cutB N x) (ps := plc (N.po x.1)) (mv := P.mkg N x) (rv := P.rkv x) hO (poss_fit hN hO hx) h2
  refine List.Perm.trans ?_ hq.symm
  have e1 : m.Perm ((P.poss N).filter (fun y => decide (y ≠ (x.1, x.2)))) := by
    have hxm : (x :: m).Perm (P.poss N) := hm.symm.trans hp
    have nd : (x :: m).Nodup := hxm.nodup_iff.mpr poss_nodup
    have hf := hxm.filter (fun y => decide (y ≠ (x.1, x.2)))
    rw [List.filter_cons_of_neg (by simp)] at hf
    have : m.filter (fun y => decide (y ≠ (x.1, x.2))) = m := by
      apply List.filter_eq_self.mpr
      intro y hy
      have hne : y ≠ x := fun e => (List.nodup_cons.mp nd).1 (e ▸ hy)
      simpa using hne
    rw [this] at hf
    exact hf
  refine e1.append ?_
  unfold FPL Px.freshL
  refine fm_perm fun t _ => ?_
  rw [NW_nil, chF_congr 8 hop]
  exact List.Perm.refl _
/-- at the beginning all choices are possible -/
theorem zero_perm (hN : NetOk N) (op fr : Nat → Bool) (hop : ∀ c, c < (px0 (plc N.fi)).nc → op c = true) (hfr : ∀ c, c < (px0 (plc N.fi)).nc → fr c = true) :
    FPL N.pr (px0 (plc N.fi)).pl (px0 (plc N.fi)).co (px0 (plc N.fi)).nc op fr N.nz = (px0 (plc N.fi)).poss N := by
  classical
  unfold FPL Px.poss
  refine fm_congr fun t ht => ?_
  have ht := List.mem_range.mp ht
  rw [NW_nil]
  unfold Px.posT
  congr 1
  rw [chF_congr (op' := fun _ => true) 8 (fun c hc => hop c hc)]
  refine List.filter_congr fun L hL => ?_
  apply Bool.eq_iff_iff.mpr
  rw [decide_eq_true_eq]
  have hF := chs_fit hN (px0_ok N) ht hL
  obtain ⟨c, hc⟩ := List.exists_mem_of_ne_nil _ hF.ne0
  constructor
  · rintro - ⟨a, ha, -⟩
    exact absurd ha (Nat.not_lt_zero a)
  · intro _
    exact List.any_eq_true.mpr ⟨c, hc, hfr c (hF.dom c hc)⟩
theorem mrk_Mad (hO : PxOk N P) (L : List Nat) (p : Nat) : P.mrk (P.beh L) p ↔ ∃ c, c < P.nc ∧ (((P.mo c = none ∨ ∃ a, P.mo c = some a ∧ P.beh L a) ∧ ∀ a, P.beh L a → ¬ P.tkP a c) ∧ P.pl c = p) := by
  have hlt : ∀ f, P.beh L f → f < P.ne := fun f ⟨x, _, q⟩ => bh_lt hO q
  unfold Px.mrk Mrk Cut
  constructor
  · rintro ⟨c, hc, ⟨h1, h2⟩, h3⟩
    exact ⟨c, hc, ⟨h1.imp id (fun ⟨a, q1, q2, _⟩ => ⟨a, q1, q2⟩), fun a ha => h2 a ha (hlt a ha)⟩, h3⟩
  · rintro ⟨c, hc, ⟨h1, h2⟩, h3⟩
    exact ⟨c, hc, ⟨h1.imp id (fun ⟨a, q1, q2⟩ => ⟨a, q1, q2, hlt a q2⟩), fun a ha _ => h2 a ha⟩, h3⟩
theorem mkg_iff (x : Ent) (p : Nat) : P.mkg N x p = true ↔ ((P.mrk (P.beh x.2) p ∧ ¬ (p < 8 ∧ N.pr x.1 p = true)) ∨ (p < 8 ∧ N.po x.1 p = true)) := by
  unfold Px.mkg; simp only [decide_eq_true_eq]
theorem mkg_lt (hO : PxOk N P) (x : Ent) {p : Nat} (h : P.mkg N x p = true) : p < 8 := by
  rcases (mkg_iff x p).mp h with ⟨⟨c, hc, -, e⟩, -⟩ | ⟨q, -⟩
  · rw [← e]; exact hO.pl8 c hc
  · exact q
/-- the marking behind the next event, as a word -/
theorem fire_B (hO : PxOk N P) {x : Ent} {r a b : Int32} (hr : B32 r (fun p => P.mrk (P.beh x.2) p)) (ha : B32 a (fun p => p < 8 ∧ N.pr x.1 p = true)) (hb : B32 b (fun p => p < 8 ∧ N.po x.1 p = true)) : B32 ((r &&& (a ^^^ (-1))) ||| b) (fun p => p < 8 ∧ P.mkg N x p = true) :=
  ((hr.and ha.not).or hb).congr fun p => by
    rw [mkg_iff]
    have h8 : P.mrk (P.beh x.2) p → p < 8 := fun ⟨c, hc, _, e⟩ => e ▸ hO.pl8 c hc
    constructor
    · rintro (⟨q1, -, q2⟩ | q)
      · exact ⟨h8 q1, Or.inl ⟨q1, q2⟩⟩
      · exact ⟨q.1, Or.inr q⟩
    · rintro ⟨q0, ⟨q1, q2⟩ | q⟩
      · exact Or.inl ⟨q1, by omega, q2⟩
      · exact Or.inr q
theorem B32.eqv {x y : Int32} {p q : Nat → Prop} (hx : B32 x p) (hy : B32 y q) : x = y ↔ ∀ i, p i ↔ q i := by
  constructor
  · rintro rfl i
    exact (hx i).symm.trans (hy i)
  · exact fun h => B32.ext hx (hy.congr fun i => (h i).symm)
theorem bool_set {f g : Nat → Bool} : (∀ p, (p < 8 ∧ f p = true) ↔ (p < 8 ∧ g p = true)) ↔ ∀ p, p < 8 → f p = g p := by
  constructor
  · exact fun h p hp => Bool.eq_iff_iff.mpr ⟨fun q => ((h p).mp ⟨hp, q⟩).2, fun q => ((h p).mpr ⟨hp, q⟩).2⟩
  · exact fun h p => and_congr_right fun hp => by rw [h p hp]
/-- whether it leads to nothing new, told by words -/
theorem cut_B {x : Ent} {v nf : Int32} {pfe : Nat} {fma : Nat → Int32} {frk : Nat → Int64} (he : pfe = P.ne) (h30 : P.ne ≤ 30) (hv : B32 v (fun p => p < 8 ∧ P.mkg N x p = true)) (hf : B32 nf (fun p => p < 8 ∧ N.fi p = true)) (hma : ∀ a, a < pfe → B32 (fma a) (fun p => p < 8 ∧ P.mg a p = true)) (hrk : ∀ a, a < pfe → frk a = lN (P.rk a)) (hlt : ∀ a, a < pfe → P.rk a < 2 ^ 46) :
    P.cutB N x = true ↔ (v = nf ∨ ∃ a, a < pfe ∧ fma a = v ∧ frk a < lN (P.rkv x)) := by
  unfold Px.cutB
  simp only [decide_eq_true_eq]
  rw [hv.eqv hf, bool_set]
  refine or_congr Iff.rfl ?_
  constructor
  · rintro ⟨a, h1, h2, h3⟩
    refine ⟨a, by omega, ((hma a (by omega)).eqv hv).mpr (bool_set.mpr h2), ?_⟩
    rw [hrk a (by omega), lN_lt63 (by have := hlt a (by omega); omega) (by have := rkv_lt h30 x; omega)]
    exact h3
  · rintro ⟨a, h1, h2, h3⟩
    refine ⟨a, by omega, bool_set.mp (((hma a h1).eqv hv).mp h2), ?_⟩
    rw [hrk a h1, lN_lt63 (by have := hlt a h1; omega) (by have := rkv_lt h30 x; omega)] at h3
    exact h3
end LINK
