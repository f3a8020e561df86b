/-! The reference's unfolding, put together. -/
def Cn0 (N : Net8) (n i cd : Nat) (gpl gpl1 gmk gmk1 gbh1 : Nat → Int32) (gbs1 : Nat → Int64) : Prop := (cd = 0 + bC n i) ∧ (PlA gpl gpl1 0 n i) ∧ (CoA gmk gmk1 (-1) 0 n i) ∧ (∀ c, c < cd → B32 (gbh1 c) ((px0 (plc N.fi)).bh c)) ∧ (∀ c, c < cd → B64 (gbs1 c) (fun d => d < cd ∧ (c ≠ d ∧ Tog (px0 (plc N.fi)).bh (px0 (plc N.fi)).tkP c d)))
theorem Cn0.ecd {N : Net8} {n i cd : Nat} {gpl gpl1 gmk gmk1 gbh1 : Nat → Int32} {gbs1 : Nat → Int64} (h : Cn0 N n i cd gpl gpl1 gmk gmk1 gbh1 gbs1) : cd = 0 + bC n i := h.1
theorem Cn0.pl {N : Net8} {n i cd : Nat} {gpl gpl1 gmk gmk1 gbh1 : Nat → Int32} {gbs1 : Nat → Int64} (h : Cn0 N n i cd gpl gpl1 gmk gmk1 gbh1 gbs1) : PlA gpl gpl1 0 n i := h.2.1
theorem Cn0.mk1 {N : Net8} {n i cd : Nat} {gpl gpl1 gmk gmk1 gbh1 : Nat → Int32} {gbs1 : Nat → Int64} (h : Cn0 N n i cd gpl gpl1 gmk gmk1 gbh1 gbs1) : CoA gmk gmk1 (-1) 0 n i := h.2.2.1
theorem Cn0.bh {N : Net8} {n i cd : Nat} {gpl gpl1 gmk gmk1 gbh1 : Nat → Int32} {gbs1 : Nat → Int64} (h : Cn0 N n i cd gpl gpl1 gmk gmk1 gbh1 gbs1) : ∀ c, c < cd → B32 (gbh1 c) ((px0 (plc N.fi)).bh c) := h.2.2.2.1
theorem Cn0.bs {N : Net8} {n i cd : Nat} {gpl gpl1 gmk gmk1 gbh1 : Nat → Int32} {gbs1 : Nat → Int64} (h : Cn0 N n i cd gpl gpl1 gmk gmk1 gbh1 gbs1) : ∀ c, c < cd → B64 (gbs1 c) (fun d => d < cd ∧ (c ≠ d ∧ Tog (px0 (plc N.fi)).bh (px0 (plc N.fi)).tkP c d)) := h.2.2.2.2
section C0
variable {N : Net8} {n i cd : Nat} {gpl gpl1 gmk gmk1 gbh1 : Nat → Int32} {gbs1 gbs2 : Nat → Int64}
theorem px0_bh (c f : Nat) : ¬ (px0 (plc N.fi)).bh c f := fun ⟨a, q, _⟩ => by cases q
theorem Cn0.zero {gbh : Nat → Int32} {gbs : Nat → Int64} : Cn0 N n 0 0 gpl gpl gmk gmk gbh gbs := ⟨rfl, PlA.zero, CoA.zero, fun c hc => absurd hc (Nat.not_lt_zero c), fun c hc => absurd hc (Nat.not_lt_zero c)⟩
theorem Cn0.skip (h : Cn0 N n i cd gpl gpl1 gmk gmk1 gbh1 gbs1) (hb : ¬ n.testBit i = true) : Cn0 N n (i + 1) cd gpl gpl1 gmk gmk1 gbh1 gbs1 := ⟨by rw [bC_s, bN_0 hb]; exact h.ecd, h.pl.skip hb, h.mk1.skip hb, h.bh, h.bs⟩
theorem Cn0.put (h : Cn0 N n i cd gpl gpl1 gmk gmk1 gbh1 gbs1) (hn : n < 256) (hi : i < 8) (hb : n.testBit i = true) (hbs : ∀ c, c < cd + 1 → B64 (gbs2 c) (fun d => d < cd + 1 ∧ (c ≠ d ∧ Tog (px0 (plc N.fi)).bh (px0 (plc N.fi)).tkP c d))) :
    Cn0 N n (i + 1) (cd + 1) gpl (upd gpl1 cd (nI i)) gmk (upd gmk1 cd (-1)) (upd gbh1 cd 0) gbs2 := by
  refine ⟨by rw [bC_s, bN_1 hb]; have := h.ecd; omega, h.pl.put hn hi hb h.ecd, h.mk1.put hb h.ecd, fun c hc => ?_, hbs⟩
  by_cases e : c = cd
  · subst e; rw [upd_at]; exact B32.zero.congr fun f => ⟨False.elim, fun q => px0_bh c f q⟩
  · rw [upd_ne e]; exact h.bh c (by omega)
theorem Cn0.rep {gtr gtk gma gcu : Nat → Int32} {gtn grk : Nat → Int64} (h : Cn0 N n 8 cd gpl gpl1 gmk gmk1 gbh1 gbs1) (hn : n < 256) (hpo : plc N.fi = psN n) : RepM N (px0 (plc N.fi)) cd 0 gpl1 gmk1 gbh1 gbs1 gtr gtn gtk grk gma gcu := by
  have e := h.ecd
  have hb8 := bC_i n 8
  have plen : (psN n).length = bC n 8 := psN_len n hn
  have z : ∀ {p : Nat → Prop}, ∀ a, a < 0 → p a := fun a ha => absurd ha (Nat.not_lt_zero a)
  refine ⟨by show cd = (plc N.fi).length; rw [hpo]; omega, rfl, by omega, by omega, fun c hc => ?_, fun c hc => ?_, h.bh, fun c hc => ?_, z, z, z, z, z, z⟩
  · have := h.pl.2 c (by omega)
    rw [Nat.zero_add] at this
    show gpl1 c = nI ((plc N.fi).getD c 0) ∧ (plc N.fi).getD c 0 < 8
    rw [hpo]
    refine ⟨this, ?_⟩
    have hm : (psN n).getD c 0 ∈ psN n := by
      rw [List.getD_eq_getElem?_getD, List.getElem?_eq_getElem (by omega)]
      exact List.getElem_mem _
    exact List.mem_range.mp (List.mem_filter.mp hm).1
  · have := h.mk1.2 c (by omega)
    rw [Nat.zero_add] at this
    exact Or.inl ⟨this, rfl⟩
  · exact (h.bs c hc).congr fun d => and_congr_right fun _ => ((px0 (plc N.fi)).co_iff c d).symm
theorem c0_alllt (h : Cn0 N n i cd gpl gpl1 gmk gmk1 gbh1 gbs1) (hn : n < 256) (hi : i ≤ 8) : AllLt gpl1 cd 8 := fun c hc => by
  have e := h.ecd
  have hm := bC_mono n hi
  have := h.pl.2 c (by omega)
  rw [Nat.zero_add] at this
  rw [this]
  refine ⟨_, ?_, rfl⟩
  have hl := psN_len n hn
  have hm' : (psN n).getD c 0 ∈ psN n := by
    rw [List.getD_eq_getElem?_getD, List.getElem?_eq_getElem (by omega)]
    exact List.getElem_mem _
  exact List.mem_range.mp (List.mem_filter.mp hm').1
end C0
theorem tw_iff {N : Net8} {P : Px} {x : Ent} {mcd : Nat} (hc : mcd = P.nc) : (∃ d, d < mcd ∧ (∀ c ∈ x.2, (d < mcd ∧ P.co c d = true)) ∧ N.po x.1 (P.pl d) = true) ↔ P.rival N x := by
  constructor
  · rintro ⟨d, h1, h2, h3⟩
    exact ⟨d, by omega, fun z hz => (P.co_iff z d).mp (h2 z hz).2, h3⟩
  · rintro ⟨d, h1, h2, h3⟩
    exact ⟨d, by omega, fun c hcx => ⟨by omega, (P.co_iff c d).mpr (h2 c hcx)⟩, h3⟩
theorem poss_len {N : Net8} {P : Px} (h8 : N.nz ≤ 8) (h60 : P.nc ≤ 60) : (P.poss N).length < 2 ^ 30 := by
  have := posU_len (N := N) (P := P) (i := N.nz) h60
  have e : (P.posU N N.nz) = P.poss N := rfl
  rw [e] at this
  have h2 : N.nz * 2 ^ 24 ≤ 8 * 2 ^ 24 := Nat.mul_le_mul_right _ h8
  omega
/-- what holds between the rounds of the reference -/
def MuI (N : Net8) (P : Px) (mcd mev : Nat) (gpl gmk gbh : Nat → Int32) (gbs : Nat → Int64) (gtr : Nat → Int32) (gtn : Nat → Int64) (gtk : Nat → Int32) (grk : Nat → Int64) (gma gcu : Nat → Int32) (mps : Int32) (mlr : Int64) (mlt mlm : Nat) (gle gch : Nat → Int32) : Prop := (RepM N P mcd mev gpl gmk gbh gbs gtr gtn gtk grk gma gcu) ∧ (PxOk N P) ∧ ((P.poss N).length ≤ 200) ∧ (FsI (P.poss N) mps mlr mlt mlm gle P.rkv) ∧ (mps ≤ 0 ∨ ∀ q, q < mlm → gch q = gle q) ∧ (∀ a, a < mev → P.rk a < 2 ^ 46) ∧ (∀ v P9, Unf N P v P9 → Unf N (px0 (plc N.fi)) v P9)
theorem MuI.rep {N : Net8} {P : Px} {mcd mev : Nat} {gpl gmk gbh : Nat → Int32} {gbs : Nat → Int64} {gtr : Nat → Int32} {gtn : Nat → Int64} {gtk : Nat → Int32} {grk : Nat → Int64} {gma gcu : Nat → Int32} {mps : Int32} {mlr : Int64} {mlt mlm : Nat} {gle gch : Nat → Int32} (h : MuI N P mcd mev gpl gmk gbh gbs gtr gtn gtk grk gma gcu mps mlr mlt mlm gle gch) : RepM N P mcd mev gpl gmk gbh gbs gtr gtn gtk grk gma gcu := h.1
theorem MuI.ok {N : Net8} {P : Px} {mcd mev : Nat} {gpl gmk gbh : Nat → Int32} {gbs : Nat → Int64} {gtr : Nat → Int32} {gtn : Nat → Int64} {gtk : Nat → Int32} {grk : Nat → Int64} {gma gcu : Nat → Int32} {mps : Int32} {mlr : Int64} {mlt mlm : Nat} {gle gch : Nat → Int32} (h : MuI N P mcd mev gpl gmk gbh gbs gtr gtn gtk grk gma gcu mps mlr mlt mlm gle gch) : PxOk N P := h.2.1
theorem MuI.few {N : Net8} {P : Px} {mcd mev : Nat} {gpl gmk gbh : Nat → Int32} {gbs : Nat → Int64} {gtr : Nat → Int32} {gtn : Nat → Int64} {gtk : Nat → Int32} {grk : Nat → Int64} {gma gcu : Nat → Int32} {mps : Int32} {mlr : Int64} {mlt mlm : Nat} {gle gch : Nat → Int32} (h : MuI N P mcd mev gpl gmk gbh gbs gtr gtn gtk grk gma gcu mps mlr mlt mlm gle gch) : (P.poss N).length ≤ 200 := h.2.2.1
theorem MuI.fs {N : Net8} {P : Px} {mcd mev : Nat} {gpl gmk gbh : Nat → Int32} {gbs : Nat → Int64} {gtr : Nat → Int32} {gtn : Nat → Int64} {gtk : Nat → Int32} {grk : Nat → Int64} {gma gcu : Nat → Int32} {mps : Int32} {mlr : Int64} {mlt mlm : Nat} {gle gch : Nat → Int32} (h : MuI N P mcd mev gpl gmk gbh gbs gtr gtn gtk grk gma gcu mps mlr mlt mlm gle gch) : FsI (P.poss N) mps mlr mlt mlm gle P.rkv := h.2.2.2.1
theorem MuI.se {N : Net8} {P : Px} {mcd mev : Nat} {gpl gmk gbh : Nat → Int32} {gbs : Nat → Int64} {gtr : Nat → Int32} {gtn : Nat → Int64} {gtk : Nat → Int32} {grk : Nat → Int64} {gma gcu : Nat → Int32} {mps : Int32} {mlr : Int64} {mlt mlm : Nat} {gle gch : Nat → Int32} (h : MuI N P mcd mev gpl gmk gbh gbs gtr gtn gtk grk gma gcu mps mlr mlt mlm gle gch) : mps ≤ 0 ∨ ∀ q, q < mlm → gch q = gle q := h.2.2.2.2.1
theorem MuI.rl {N : Net8} {P : Px} {mcd mev : Nat} {gpl gmk gbh : Nat → Int32} {gbs : Nat → Int64} {gtr : Nat → Int32} {gtn : Nat → Int64} {gtk : Nat → Int32} {grk : Nat → Int64} {gma gcu : Nat → Int32} {mps : Int32} {mlr : Int64} {mlt mlm : Nat} {gle gch : Nat → Int32} (h : MuI N P mcd mev gpl gmk gbh gbs gtr gtn gtk grk gma gcu mps mlr mlt mlm gle gch) : ∀ a, a < mev → P.rk a < 2 ^ 46 := h.2.2.2.2.2.1
theorem MuI.un {N : Net8} {P : Px} {mcd mev : Nat} {gpl gmk gbh : Nat → Int32} {gbs : Nat → Int64} {gtr : Nat → Int32} {gtn : Nat → Int64} {gtk : Nat → Int32} {grk : Nat → Int64} {gma gcu : Nat → Int32} {mps : Int32} {mlr : Int64} {mlt mlm : Nat} {gle gch : Nat → Int32} (h : MuI N P mcd mev gpl gmk gbh gbs gtr gtn gtk grk gma gcu mps mlr mlt mlm gle gch) : ∀ v P9, Unf N P v P9 → Unf N (px0 (plc N.fi)) v P9 := h.2.2.2.2.2.2
theorem FsI.best {N : Net8} {P : Px} {mps : Int32} {mlr : Int64} {mlt mlm : Nat} {gle gch : Nat → Int32} (h : FsI (P.poss N) mps mlr mlt mlm gle P.rkv) (hl : (P.poss N).length < 2 ^ 30) (h0 : ¬ (P.poss N).length ≤ 0) (hs : mps ≤ 0 ∨ ∀ q, q < mlm → gch q = gle q) : ∃ b, P.best N b ∧ mlr = lN (P.rkv b + 2 ^ 40) ∧ mlt = b.1 ∧ mlm = b.2.length ∧ ChI gle b.2 ∧ ChI gch b.2 := by
  have hne : P.poss N ≠ [] := fun e => h0 (by rw [e]; exact Nat.le_refl _)
  obtain ⟨b, hb, h1, h2, h3, h4⟩ := h.2 hne
  refine ⟨b, hb, h1, h2, h3, h4, fun k hk => ?_⟩
  rcases hs with q | q
  · exfalso
    rw [h.1] at q
    exact h0 ((nI_leI (a := (P.poss N).length) (b := 0) (by omega) (by omega)).mp q)
  · rw [q k (by omega)]; exact h4 k hk
theorem ChI.alllt {g : Nat → Int32} {L : List Nat} {n : Nat} (h : ChI g L) (hn : n = L.length) : AllLt g n 60 := fun j hj => ⟨_, (h j (by omega)).2, (h j (by omega)).1⟩
