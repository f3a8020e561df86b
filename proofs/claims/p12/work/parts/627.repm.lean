/-! A prefix, and the reference's rows of it. -/
def TksI (N : Net8) (P : Px) (gtk : Nat → Int32) (a : Nat) : Prop := ∃ L : List Nat, (∀ c, P.tk a c = true ↔ c ∈ L) ∧ L.map P.pl = plc (N.pr (P.tr a)) ∧ (∀ k (h : k < L.length), gtk (8 * a + k) = nI (L[k])) ∧ ∀ k, L.length ≤ k → k < 8 → gtk (8 * a + k) = -1
def RepM (N : Net8) (P : Px) (mcd mev : Nat) (gpl gmk gbh : Nat → Int32) (gbs : Nat → Int64) (gtr : Nat → Int32) (gtn : Nat → Int64) (gtk : Nat → Int32) (grk : Nat → Int64) (gma gcu : Nat → Int32) : Prop := (mcd = P.nc) ∧ (mev = P.ne) ∧ (mcd ≤ 60) ∧ (mev ≤ 30) ∧ (PlaI mcd gpl P.pl) ∧ (MakI mcd gmk P.mo) ∧ (∀ c, c < mcd → B32 (gbh c) (P.bh c)) ∧ (∀ c, c < mcd → B64 (gbs c) (fun d => d < mcd ∧ P.co c d = true)) ∧ (TraI mev gtr P.tr) ∧ (∀ a, a < mev → B64 (gtn a) (fun c => P.tk a c = true)) ∧ (∀ a, a < mev → TksI N P gtk a) ∧ (∀ a, a < mev → grk a = lN (P.rk a + 2 ^ 40)) ∧ (∀ a, a < mev → B32 (gma a) (fun p => p < 8 ∧ P.mg a p = true)) ∧ (∀ a, a < mev → gcu a = if P.ct a = true then 1 else 0)
theorem RepM.nc {N : Net8} {P : Px} {mcd mev : Nat} {gpl gmk gbh : Nat → Int32} {gbs : Nat → Int64} {gtr : Nat → Int32} {gtn : Nat → Int64} {gtk : Nat → Int32} {grk : Nat → Int64} {gma gcu : Nat → Int32} (h : RepM N P mcd mev gpl gmk gbh gbs gtr gtn gtk grk gma gcu) : mcd = P.nc := h.1
theorem RepM.ne {N : Net8} {P : Px} {mcd mev : Nat} {gpl gmk gbh : Nat → Int32} {gbs : Nat → Int64} {gtr : Nat → Int32} {gtn : Nat → Int64} {gtk : Nat → Int32} {grk : Nat → Int64} {gma gcu : Nat → Int32} (h : RepM N P mcd mev gpl gmk gbh gbs gtr gtn gtk grk gma gcu) : mev = P.ne := h.2.1
theorem RepM.c60 {N : Net8} {P : Px} {mcd mev : Nat} {gpl gmk gbh : Nat → Int32} {gbs : Nat → Int64} {gtr : Nat → Int32} {gtn : Nat → Int64} {gtk : Nat → Int32} {grk : Nat → Int64} {gma gcu : Nat → Int32} (h : RepM N P mcd mev gpl gmk gbh gbs gtr gtn gtk grk gma gcu) : mcd ≤ 60 := h.2.2.1
theorem RepM.e30 {N : Net8} {P : Px} {mcd mev : Nat} {gpl gmk gbh : Nat → Int32} {gbs : Nat → Int64} {gtr : Nat → Int32} {gtn : Nat → Int64} {gtk : Nat → Int32} {grk : Nat → Int64} {gma gcu : Nat → Int32} (h : RepM N P mcd mev gpl gmk gbh gbs gtr gtn gtk grk gma gcu) : mev ≤ 30 := h.2.2.2.1
theorem RepM.pl {N : Net8} {P : Px} {mcd mev : Nat} {gpl gmk gbh : Nat → Int32} {gbs : Nat → Int64} {gtr : Nat → Int32} {gtn : Nat → Int64} {gtk : Nat → Int32} {grk : Nat → Int64} {gma gcu : Nat → Int32} (h : RepM N P mcd mev gpl gmk gbh gbs gtr gtn gtk grk gma gcu) : PlaI mcd gpl P.pl := h.2.2.2.2.1
theorem RepM.mak {N : Net8} {P : Px} {mcd mev : Nat} {gpl gmk gbh : Nat → Int32} {gbs : Nat → Int64} {gtr : Nat → Int32} {gtn : Nat → Int64} {gtk : Nat → Int32} {grk : Nat → Int64} {gma gcu : Nat → Int32} (h : RepM N P mcd mev gpl gmk gbh gbs gtr gtn gtk grk gma gcu) : MakI mcd gmk P.mo := h.2.2.2.2.2.1
theorem RepM.bh {N : Net8} {P : Px} {mcd mev : Nat} {gpl gmk gbh : Nat → Int32} {gbs : Nat → Int64} {gtr : Nat → Int32} {gtn : Nat → Int64} {gtk : Nat → Int32} {grk : Nat → Int64} {gma gcu : Nat → Int32} (h : RepM N P mcd mev gpl gmk gbh gbs gtr gtn gtk grk gma gcu) : ∀ c, c < mcd → B32 (gbh c) (P.bh c) := h.2.2.2.2.2.2.1
theorem RepM.bs {N : Net8} {P : Px} {mcd mev : Nat} {gpl gmk gbh : Nat → Int32} {gbs : Nat → Int64} {gtr : Nat → Int32} {gtn : Nat → Int64} {gtk : Nat → Int32} {grk : Nat → Int64} {gma gcu : Nat → Int32} (h : RepM N P mcd mev gpl gmk gbh gbs gtr gtn gtk grk gma gcu) : ∀ c, c < mcd → B64 (gbs c) (fun d => d < mcd ∧ P.co c d = true) := h.2.2.2.2.2.2.2.1
theorem RepM.tr {N : Net8} {P : Px} {mcd mev : Nat} {gpl gmk gbh : Nat → Int32} {gbs : Nat → Int64} {gtr : Nat → Int32} {gtn : Nat → Int64} {gtk : Nat → Int32} {grk : Nat → Int64} {gma gcu : Nat → Int32} (h : RepM N P mcd mev gpl gmk gbh gbs gtr gtn gtk grk gma gcu) : TraI mev gtr P.tr := h.2.2.2.2.2.2.2.2.1
theorem RepM.tn {N : Net8} {P : Px} {mcd mev : Nat} {gpl gmk gbh : Nat → Int32} {gbs : Nat → Int64} {gtr : Nat → Int32} {gtn : Nat → Int64} {gtk : Nat → Int32} {grk : Nat → Int64} {gma gcu : Nat → Int32} (h : RepM N P mcd mev gpl gmk gbh gbs gtr gtn gtk grk gma gcu) : ∀ a, a < mev → B64 (gtn a) (fun c => P.tk a c = true) := h.2.2.2.2.2.2.2.2.2.1
theorem RepM.tks {N : Net8} {P : Px} {mcd mev : Nat} {gpl gmk gbh : Nat → Int32} {gbs : Nat → Int64} {gtr : Nat → Int32} {gtn : Nat → Int64} {gtk : Nat → Int32} {grk : Nat → Int64} {gma gcu : Nat → Int32} (h : RepM N P mcd mev gpl gmk gbh gbs gtr gtn gtk grk gma gcu) : ∀ a, a < mev → TksI N P gtk a := h.2.2.2.2.2.2.2.2.2.2.1
theorem RepM.rk {N : Net8} {P : Px} {mcd mev : Nat} {gpl gmk gbh : Nat → Int32} {gbs : Nat → Int64} {gtr : Nat → Int32} {gtn : Nat → Int64} {gtk : Nat → Int32} {grk : Nat → Int64} {gma gcu : Nat → Int32} (h : RepM N P mcd mev gpl gmk gbh gbs gtr gtn gtk grk gma gcu) : ∀ a, a < mev → grk a = lN (P.rk a + 2 ^ 40) := h.2.2.2.2.2.2.2.2.2.2.2.1
theorem RepM.ma {N : Net8} {P : Px} {mcd mev : Nat} {gpl gmk gbh : Nat → Int32} {gbs : Nat → Int64} {gtr : Nat → Int32} {gtn : Nat → Int64} {gtk : Nat → Int32} {grk : Nat → Int64} {gma gcu : Nat → Int32} (h : RepM N P mcd mev gpl gmk gbh gbs gtr gtn gtk grk gma gcu) : ∀ a, a < mev → B32 (gma a) (fun p => p < 8 ∧ P.mg a p = true) := h.2.2.2.2.2.2.2.2.2.2.2.2.1
theorem RepM.cu {N : Net8} {P : Px} {mcd mev : Nat} {gpl gmk gbh : Nat → Int32} {gbs : Nat → Int64} {gtr : Nat → Int32} {gtn : Nat → Int64} {gtk : Nat → Int32} {grk : Nat → Int64} {gma gcu : Nat → Int32} (h : RepM N P mcd mev gpl gmk gbh gbs gtr gtn gtk grk gma gcu) : ∀ a, a < mev → gcu a = if P.ct a = true then 1 else 0 := h.2.2.2.2.2.2.2.2.2.2.2.2.2
section RM
variable {N : Net8} {P : Px} {mcd mev : Nat} {gpl gmk gbh : Nat → Int32} {gbs : Nat → Int64} {gtr : Nat → Int32} {gtn : Nat → Int64} {gtk : Nat → Int32} {grk : Nat → Int64} {gma gcu : Nat → Int32}
/-- what is behind a condition is no cut-off -/
theorem cs_nct (hO : PxOk N P) : ∀ b f, P.ct b = false → P.cs b f = true → P.ct f = false := by
  intro b
  induction b using Nat.strongRecOn with
  | _ b ih =>
    intro f hb hf
    rcases ((hO.csd b f).mp hf).2 with rfl | ⟨c, g, h1, h2, h3⟩
    · exact hb
    · exact ih g (hO.lt b c g h1 h2) f (hO.nct c g h2) h3
theorem beh_nct (hO : PxOk N P) {L : List Nat} {f : Nat} (h : P.beh L f) : P.ct f = false := by
  obtain ⟨x, -, a, ha, q⟩ := h
  exact cs_nct hO a f (hO.nct x a ha) q
theorem beh_conf (hO : PxOk N P) {x : Ent} (hF : Fit N P x.1 x.2) : EvConf P.bh P.tkP P.mo (P.beh x.2) := hO.conf (T := fun c => c ∈ x.2) (fun a b ha hb => hF.tog a ha b hb)
/-- the rows of the events, one event more -/
theorem repm_ev {x : Ent} {gtk1 gcu1 : Nat → Int32} {m : Int64} {v : Int32} (h : RepM N P mcd mev gpl gmk gbh gbs gtr gtn gtk grk gma gcu) (hO : PxOk N P) (hF : Fit N P x.1 x.2) (ht8 : x.1 < 8) (hm : B64 m (fun c => c ∈ x.2)) (hpl : x.2.map P.pl = plc (N.pr x.1)) (hv : B32 v (fun p => p < 8 ∧ P.mkg N x p = true)) (hg1 : ∀ a, a ≠ mev → gcu1 a = gcu a) (hk : gcu1 mev = if P.cutB N x = true then 1 else 0)
    (ht1 : ∀ q, q < 8 * mev → gtk1 q = gtk q) (ht2 : ∀ q (h : q < x.2.length), gtk1 (8 * mev + q) = nI (x.2[q])) (ht3 : ∀ q, x.2.length ≤ q → q < 8 → gtk1 (8 * mev + q) = -1) :
    TraI (mev + 1) (upd gtr mev (nI x.1)) (P.succ N x).tr ∧ (∀ a, a < mev + 1 → B64 (vp_updL gtn mev m a) (fun c => (P.succ N x).tk a c = true)) ∧ (∀ a, a < mev + 1 → TksI N (P.succ N x) gtk1 a) ∧ (∀ a, a < mev + 1 → vp_updL grk mev (lN (P.rkv x + 2 ^ 40)) a = lN ((P.succ N x).rk a + 2 ^ 40)) ∧ (∀ a, a < mev + 1 → B32 (upd gma mev v a) (fun p => p < 8 ∧ (P.succ N x).mg a p = true)) ∧ ∀ a, a < mev + 1 → gcu1 a = if (P.succ N x).ct a = true then 1 else 0 := by
  have pe : mev = P.ne := h.ne
  have tkn : ∀ a c, (P.succ N x).tkP a c ↔ (P.tkP a c ∨ (a = P.ne ∧ c ∈ x.2)) := fun a c => ext_tk hO a c
  have trn : (P.succ N x).tr mev = x.1 := by show (if mev < P.ne then _ else _) = _; rw [if_neg (by omega)]
  have tro : ∀ a, a < mev → (P.succ N x).tr a = P.tr a := fun a ha => by show (if a < P.ne then _ else _) = _; rw [if_pos (by omega)]
  have tn0 : ∀ c, (P.succ N x).tk mev c = true ↔ c ∈ x.2 := fun c => by
    refine (tkn mev c).trans ?_
    constructor
    · rintro (q | q)
      · have := (hO.tkd _ _ q).1; omega
      · exact q.2
    · exact fun q => Or.inr ⟨pe, q⟩
  have to0 : ∀ a c, a < mev → ((P.succ N x).tk a c = true ↔ P.tk a c = true) := fun a c ha => by
    refine (tkn a c).trans ?_
    exact ⟨fun q => q.elim id (fun r => by omega), Or.inl⟩
  have plo : ∀ c, c < P.nc → (P.succ N x).pl c = P.pl c := fun c hc => by show (if c < P.nc then _ else _) = _; rw [if_pos hc]
  refine ⟨fun a ha => ?_, fun a ha => ?_, fun a ha => ?_, fun a ha => ?_, fun a ha => ?_, fun a ha => ?_⟩
  · by_cases e : a = mev
    · subst e; rw [upd_at, trn]; exact ⟨rfl, ht8⟩
    · rw [upd_ne e, tro a (by omega)]; exact h.tr a (by omega)
  · by_cases e : a = mev
    · subst e; rw [updL_at]; exact hm.congr fun c => (tn0 c).symm
    · rw [updL_ne e]; exact (h.tn a (by omega)).congr fun c => (to0 a c (by omega)).symm
  · by_cases e : a = mev
    · subst e
      refine ⟨x.2, tn0, ?_, ht2, ht3⟩
      rw [trn, ← hpl]
      exact List.map_congr_left fun c hc => plo c (hF.dom c hc)
    · obtain ⟨L, h1, h2, h3, h4⟩ := h.tks a (by omega)
      have hd : ∀ c ∈ L, c < P.nc := fun c hc => (hO.tkd a c ((h1 c).mpr hc)).2
      refine ⟨L, fun c => (to0 a c (by omega)).trans (h1 c), ?_, fun q hq => ?_, fun q hq hq8 => ?_⟩
      · rw [tro a (by omega), ← h2]
        exact List.map_congr_left fun c hc => plo c (hd c hc)
      · have hl8 : L.length ≤ 8 := by
          have := congrArg List.length h2
          rw [List.length_map] at this
          rw [this]; exact plc_len _
        rw [ht1 _ (by omega)]; exact h3 q hq
      · rw [ht1 _ (by omega)]; exact h4 q hq hq8
  · have rkn : ∀ a, (P.succ N x).rk a = if a < P.ne then P.rk a else P.rkv x := fun a => rfl
    rw [rkn a]
    by_cases e : a = mev
    · subst e; rw [updL_at, if_neg (by omega)]
    · rw [updL_ne e, if_pos (by omega)]; exact h.rk a (by omega)
  · have mgn : ∀ a p, (P.succ N x).mg a p = if a < P.ne then P.mg a p else P.mkg N x p := fun a p => rfl
    by_cases e : a = mev
    · subst e
      rw [upd_at]
      refine hv.congr fun p => ?_
      rw [mgn, if_neg (by omega)]
    · rw [upd_ne e]
      refine (h.ma a (by omega)).congr fun p => ?_
      rw [mgn, if_pos (by omega)]
  · by_cases e : a = mev
    · subst e
      have : (P.succ N x).ct a = P.cutB N x := by show (if a < P.ne then _ else _) = _; rw [if_neg (by omega)]
      rw [this]; exact hk
    · have : (P.succ N x).ct a = P.ct a := by show (if a < P.ne then _ else _) = _; rw [if_pos (by omega)]
      rw [hg1 a e, this]; exact h.cu a (by omega)
/-- a cut-off has come -/
theorem repm_cut {x : Ent} {gtk1 gtr1 gma1 gcu1 : Nat → Int32} {gtn1 grk1 : Nat → Int64} (h : RepM N P mcd mev gpl gmk gbh gbs gtr gtn gtk grk gma gcu) (hO : PxOk N P) (h30 : mev < 30) (hk : P.cutB N x = true)
    (he : TraI (mev + 1) gtr1 (P.succ N x).tr ∧ (∀ a, a < mev + 1 → B64 (gtn1 a) (fun c => (P.succ N x).tk a c = true)) ∧ (∀ a, a < mev + 1 → TksI N (P.succ N x) gtk1 a) ∧ (∀ a, a < mev + 1 → grk1 a = lN ((P.succ N x).rk a + 2 ^ 40)) ∧ (∀ a, a < mev + 1 → B32 (gma1 a) (fun p => p < 8 ∧ (P.succ N x).mg a p = true)) ∧ ∀ a, a < mev + 1 → gcu1 a = if (P.succ N x).ct a = true then 1 else 0) :
    RepM N (P.succ N x) mcd (mev + 1) gpl gmk gbh gbs gtr1 gtn1 gtk1 grk1 gma1 gcu1 := by
  have pc := h.nc
  obtain ⟨v1, v2, v3, v4, v5, v6⟩ := he
  refine ⟨by rw [succ_nc_cut hk]; exact pc, by rw [h.ne]; rfl, h.c60, by omega, fun c hc => ?_, fun c hc => ?_, fun c hc => ?_, fun c hc => ?_, v1, v2, v3, v4, v5, v6⟩
  · have : (P.succ N x).pl c = P.pl c := by show (if c < P.nc then _ else _) = _; rw [if_pos (by omega)]
    rw [this]; exact h.pl c hc
  · have : (P.succ N x).mo c = P.mo c := by show (if c < P.nc then _ else _) = _; rw [if_pos (by omega)]
    rw [this]; exact h.mak c hc
  · exact (h.bh c hc).congr fun f => (ext_bh_old hO (by omega) f).symm
  · refine (h.bs c hc).congr fun d => and_congr_right fun hd => ?_
    rw [Px.co_iff, Px.co_iff]
    exact and_congr_right fun _ => (ext_tog_old hO (by omega) (by omega)).symm
/-- its conditions, one by one -/
def CndI (N : Net8) (P : Px) (x : Ent) (n mcd mev i cd : Nat) (gpl gpl1 gmk gmk1 gbh1 : Nat → Int32) (gbs1 : Nat → Int64) : Prop := (cd = mcd + bC n i) ∧ (PlA gpl gpl1 mcd n i) ∧ (CoA gmk gmk1 (nI mev) mcd n i) ∧ (∀ c, c < cd → B32 (gbh1 c) ((P.succ N x).bh c)) ∧ (∀ c, c < cd → B64 (gbs1 c) (fun d => d < cd ∧ (c ≠ d ∧ Tog (P.succ N x).bh (P.succ N x).tkP c d)))
theorem CndI.ecd {N : Net8} {P : Px} {x : Ent} {n mcd mev i cd : Nat} {gpl gpl1 gmk gmk1 gbh1 : Nat → Int32} {gbs1 : Nat → Int64} (h : CndI N P x n mcd mev i cd gpl gpl1 gmk gmk1 gbh1 gbs1) : cd = mcd + bC n i := h.1
theorem CndI.pl {N : Net8} {P : Px} {x : Ent} {n mcd mev i cd : Nat} {gpl gpl1 gmk gmk1 gbh1 : Nat → Int32} {gbs1 : Nat → Int64} (h : CndI N P x n mcd mev i cd gpl gpl1 gmk gmk1 gbh1 gbs1) : PlA gpl gpl1 mcd n i := h.2.1
theorem CndI.mk1 {N : Net8} {P : Px} {x : Ent} {n mcd mev i cd : Nat} {gpl gpl1 gmk gmk1 gbh1 : Nat → Int32} {gbs1 : Nat → Int64} (h : CndI N P x n mcd mev i cd gpl gpl1 gmk gmk1 gbh1 gbs1) : CoA gmk gmk1 (nI mev) mcd n i := h.2.2.1
theorem CndI.bh {N : Net8} {P : Px} {x : Ent} {n mcd mev i cd : Nat} {gpl gpl1 gmk gmk1 gbh1 : Nat → Int32} {gbs1 : Nat → Int64} (h : CndI N P x n mcd mev i cd gpl gpl1 gmk gmk1 gbh1 gbs1) : ∀ c, c < cd → B32 (gbh1 c) ((P.succ N x).bh c) := h.2.2.2.1
theorem CndI.bs {N : Net8} {P : Px} {x : Ent} {n mcd mev i cd : Nat} {gpl gpl1 gmk gmk1 gbh1 : Nat → Int32} {gbs1 : Nat → Int64} (h : CndI N P x n mcd mev i cd gpl gpl1 gmk gmk1 gbh1 gbs1) : ∀ c, c < cd → B64 (gbs1 c) (fun d => d < cd ∧ (c ≠ d ∧ Tog (P.succ N x).bh (P.succ N x).tkP c d)) := h.2.2.2.2
theorem CndI.zero {x : Ent} {n : Nat} (h : RepM N P mcd mev gpl gmk gbh gbs gtr gtn gtk grk gma gcu) (hO : PxOk N P) : CndI N P x n mcd mev 0 mcd gpl gpl gmk gmk gbh gbs := by
  have pc := h.nc
  refine ⟨rfl, PlA.zero, CoA.zero, fun c hc => (h.bh c hc).congr fun f => (ext_bh_old hO (by omega) f).symm, fun c hc => (h.bs c hc).congr fun d => and_congr_right fun hd => ?_⟩
  rw [Px.co_iff]
  exact and_congr_right fun _ => (ext_tog_old hO (by omega) (by omega)).symm
theorem CndI.skip {x : Ent} {n i cd : Nat} {gpl1 gmk1 gbh1 : Nat → Int32} {gbs1 : Nat → Int64} (h : CndI N P x n mcd mev i cd gpl gpl1 gmk gmk1 gbh1 gbs1) (hb : ¬ n.testBit i = true) : CndI N P x n mcd mev (i + 1) cd gpl gpl1 gmk gmk1 gbh1 gbs1 :=
  ⟨by rw [bC_s, bN_0 hb]; exact h.ecd, h.pl.skip hb, h.mk1.skip hb, h.bh, h.bs⟩
theorem CndI.put {x : Ent} {n i cd : Nat} {gpl1 gmk1 gbh1 : Nat → Int32} {gbs1 gbs2 : Nat → Int64} {z : Int32} (h : CndI N P x n mcd mev i cd gpl gpl1 gmk gmk1 gbh1 gbs1) (hn : n < 256) (hi : i < 8) (hb : n.testBit i = true) (hz : B32 z ((P.succ N x).bh cd)) (hbs : ∀ c, c < cd + 1 → B64 (gbs2 c) (fun d => d < cd + 1 ∧ (c ≠ d ∧ Tog (P.succ N x).bh (P.succ N x).tkP c d))) :
    CndI N P x n mcd mev (i + 1) (cd + 1) gpl (upd gpl1 cd (nI i)) gmk (upd gmk1 cd (nI mev)) (upd gbh1 cd z) gbs2 := by
  refine ⟨by rw [bC_s, bN_1 hb]; have := h.ecd; omega, h.pl.put hn hi hb h.ecd, h.mk1.put hb h.ecd, fun c hc => ?_, hbs⟩
  by_cases e : c = cd
  · subst e; rw [upd_at]; exact hz
  · rw [upd_ne e]; exact h.bh c (by omega)
theorem repm_full {x : Ent} {n cd : Nat} {gpl1 gmk1 gbh1 gtk1 gtr1 gma1 gcu1 : Nat → Int32} {gbs1 gtn1 grk1 : Nat → Int64} (h : RepM N P mcd mev gpl gmk gbh gbs gtr gtn gtk grk gma gcu) (h30 : mev < 30) (hk : P.cutB N x = false) (hn : n < 256) (hpo : plc (N.po x.1) = psN n) (hroom : mcd + bC n 8 ≤ 60) (hc : CndI N P x n mcd mev 8 cd gpl gpl1 gmk gmk1 gbh1 gbs1)
    (he : TraI (mev + 1) gtr1 (P.succ N x).tr ∧ (∀ a, a < mev + 1 → B64 (gtn1 a) (fun c => (P.succ N x).tk a c = true)) ∧ (∀ a, a < mev + 1 → TksI N (P.succ N x) gtk1 a) ∧ (∀ a, a < mev + 1 → grk1 a = lN ((P.succ N x).rk a + 2 ^ 40)) ∧ (∀ a, a < mev + 1 → B32 (gma1 a) (fun p => p < 8 ∧ (P.succ N x).mg a p = true)) ∧ ∀ a, a < mev + 1 → gcu1 a = if (P.succ N x).ct a = true then 1 else 0) :
    RepM N (P.succ N x) cd (mev + 1) gpl1 gmk1 gbh1 gbs1 gtr1 gtn1 gtk1 grk1 gma1 gcu1 := by
  have pc := h.nc
  have pe := h.ne
  have plen : (psN n).length = bC n 8 := psN_len n hn
  have ecd := hc.ecd
  obtain ⟨v1, v2, v3, v4, v5, v6⟩ := he
  have split : ∀ c, c < cd → c < mcd ∨ ∃ j, j < bC n 8 ∧ c = mcd + j := fun c hc => by
    by_cases q : c < mcd
    · exact Or.inl q
    · exact Or.inr ⟨c - mcd, by omega, by omega⟩
  refine ⟨by rw [succ_nc hk hn hpo]; omega, by rw [pe]; rfl, by omega, by omega, fun c hcd => ?_, fun c hcd => ?_, hc.bh, fun c hcd => ?_, v1, v2, v3, v4, v5, v6⟩
  · rcases split c hcd with q | ⟨j, hj, rfl⟩
    · have : (P.succ N x).pl c = P.pl c := by show (if c < P.nc then _ else _) = _; rw [if_pos (by omega)]
      rw [this, hc.pl.1 c q]; exact h.pl c q
    · have : (P.succ N x).pl (mcd + j) = (psN n).getD j 0 := by
        show (if mcd + j < P.nc then _ else (plc (N.po x.1)).getD (mcd + j - P.nc) 0) = _
        rw [if_neg (by omega), hpo, show mcd + j - P.nc = j from by omega]
      rw [this, hc.pl.2 j hj]
      refine ⟨rfl, ?_⟩
      have hm : (psN n).getD j 0 ∈ psN n := by
        rw [List.getD_eq_getElem?_getD, List.getElem?_eq_getElem (by omega)]
        exact List.getElem_mem _
      exact List.mem_range.mp (List.mem_filter.mp hm).1
  · rcases split c hcd with q | ⟨j, hj, rfl⟩
    · have : (P.succ N x).mo c = P.mo c := by show (if c < P.nc then _ else _) = _; rw [if_pos (by omega)]
      rw [this, hc.mk1.1 c q]; exact h.mak c q
    · have : (P.succ N x).mo (mcd + j) = some mev := by
        show (if mcd + j < P.nc then P.mo _ else if P.cutB N x = false ∧ mcd + j < P.nc + (plc (N.po x.1)).length then some P.ne else none) = _
        rw [if_neg (by omega), if_pos ⟨hk, by rw [hpo, plen]; omega⟩, pe]
      rw [this, hc.mk1.2 j hj]
      exact Or.inr ⟨mev, h30, rfl, rfl⟩
  · refine (hc.bs c hcd).congr fun d => and_congr_right fun _ => ?_
    exact ((P.succ N x).co_iff c d).symm
end RM
theorem cut_M {N : Net8} {P : Px} {x : Ent} {v nf : Int32} {mev : Nat} {gma : Nat → Int32} {grk : Nat → Int64} (he : mev = P.ne) (h30 : P.ne ≤ 30) (hv : B32 v (fun p => p < 8 ∧ P.mkg N x p = true)) (hf : B32 nf (fun p => p < 8 ∧ N.fi p = true)) (hma : ∀ a, a < mev → B32 (gma a) (fun p => p < 8 ∧ P.mg a p = true)) (hrk : ∀ a, a < mev → grk a = lN (P.rk a + 2 ^ 40)) (hlt : ∀ a, a < mev → P.rk a < 2 ^ 46) :
    P.cutB N x = true ↔ (v = nf ∨ ∃ a, a < mev ∧ (gma a = v ∧ grk a < lN (P.rkv x + 2 ^ 40))) := by
  unfold Px.cutB
  simp only [decide_eq_true_eq]
  rw [hv.eqv hf, bool_set]
  have hr := rkv_lt h30 x
  refine or_congr Iff.rfl ?_
  constructor
  · rintro ⟨a, h1, h2, h3⟩
    have := hlt a (by omega)
    refine ⟨a, by omega, ((hma a (by omega)).eqv hv).mpr (bool_set.mpr h2), ?_⟩
    rw [hrk a (by omega), lN_lt63 (by omega) (by omega)]
    omega
  · rintro ⟨a, h1, h2, h3⟩
    have := hlt a h1
    refine ⟨a, by omega, bool_set.mp (((hma a h1).eqv hv).mp h2), ?_⟩
    rw [hrk a h1, lN_lt63 (by omega) (by omega)] at h3
    omega
theorem bh_new {N : Net8} {P : Px} {x : Ent} {z : Int32} {n c mev : Nat} (he : mev = P.ne) (hk : P.cutB N x = false) (hn : n < 256) (hpo : plc (N.po x.1) = psN n) (h1 : P.nc ≤ c) (h2 : c < P.nc + bC n 8) (hz : B32 z (fun f => P.beh x.2 f ∨ f = mev)) : B32 z ((P.succ N x).bh c) := hz.congr fun f => by
  refine Iff.trans ?_ (ext_bh_new hk h1 (by rw [hpo, psN_len n hn]; exact h2) f).symm
  rw [he]
  exact ⟨fun q => q.elim Or.inr Or.inl, fun q => q.elim Or.inr Or.inl⟩
theorem tk_y {L : List Nat} {g : Nat → Int32} {b i : Nat} {hi : i < L.length} (h : ∀ q (h : q < L.length), q < i → g (b + q) = nI (L[q])) : ∀ q (h : q < L.length), q < i + 1 → upd g (b + i) (nI (L[i])) (b + q) = nI (L[q]) := fun q hq h1 => by
  by_cases e : q = i
  · subst e; rw [upd_at]
  · rw [upd_ne (by omega)]; exact h q hq (by omega)
theorem q_up {A : Prop} {p : Nat → Prop} {i : Nat} (h : A ∨ ∃ a, a < i ∧ p a) : A ∨ ∃ a, a < i + 1 ∧ p a := h.imp id th_up
theorem q_no {A : Prop} {p : Nat → Prop} {i : Nat} (h : ¬ (A ∨ ∃ a, a < i ∧ p a)) (hi : ¬ p i) : ¬ (A ∨ ∃ a, a < i + 1 ∧ p a) := fun q => q.elim (fun a => h (Or.inl a)) (fun r => th_no (fun z => h (Or.inr z)) hi r)
theorem cn_alllt {N : Net8} {P : Px} {x : Ent} {n mcd mev i cd : Nat} {gpl gpl1 gmk gmk1 gbh1 : Nat → Int32} {gbs1 : Nat → Int64} (h : CndI N P x n mcd mev i cd gpl gpl1 gmk gmk1 gbh1 gbs1) (h0 : AllLt gpl mcd 8) (hn : n < 256) (hi : i ≤ 8) : AllLt gpl1 cd 8 := fun c hc => by
  have e := h.ecd
  have hm := bC_mono n hi
  by_cases q : c < mcd
  · rw [h.pl.1 c q]; exact h0 c q
  · obtain ⟨j, rfl⟩ : ∃ j, c = mcd + j := ⟨c - mcd, by omega⟩
    rw [h.pl.2 j (by omega)]
    refine ⟨_, ?_, rfl⟩
    have hl := psN_len n hn
    have hm' : (psN n).getD j 0 ∈ psN n := by
      rw [List.getD_eq_getElem?_getD, List.getElem?_eq_getElem (by omega)]
      exact List.getElem_mem _
    exact List.mem_range.mp (List.mem_filter.mp hm').1
