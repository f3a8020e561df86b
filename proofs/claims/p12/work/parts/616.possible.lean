/-! The possible events, as the class keeps them. -/
theorem lN_ti63 {m : Nat} (h : m < 2 ^ 63) : (lN m).toInt = (m : Int) := by
  show (Int64.ofNat m).toInt = _
  exact Int64.toInt_ofNat_of_lt h
theorem lN_lt63 {a b : Nat} (ha : a < 2 ^ 63) (hb : b < 2 ^ 63) : lN a < lN b ↔ a < b := by
  rw [Int64.lt_iff_toInt_lt, lN_ti63 ha, lN_ti63 hb]; omega
theorem lN_le63 {a b : Nat} (ha : a < 2 ^ 63) (hb : b < 2 ^ 63) : lN a ≤ lN b ↔ a ≤ b := by
  rw [Int64.le_iff_toInt_le, lN_ti63 ha, lN_ti63 hb]; omega
theorem lN_eq63 {a b : Nat} (ha : a < 2 ^ 63) (hb : b < 2 ^ 63) : lN a = lN b ↔ a = b := ⟨lN_inj ha hb, fun e => e ▸ rfl⟩
abbrev Ent := Nat × List Nat
def PosI (l : List Ent) (otr : Nat → Int32) (otn ork : Nat → Int64) (rk : Ent → Nat) : Prop := ∀ i (h : i < l.length), otr i = nI (l[i]'h).1 ∧ B64 (otn i) (fun c => c ∈ (l[i]'h).2) ∧ ork i = lN (rk (l[i]'h))
def PoR (l : List Ent) (oz : Nat) (otr : Nat → Int32) (otn ork : Nat → Int64) (rk : Ent → Nat) : Prop := (l.length ≤ 200 ∧ oz = l.length ∧ PosI l otr otn ork rk) ∨ (200 < l.length ∧ oz = 201)
theorem set_perm {α : Type} {l : List α} {k : Nat} (hk : k < l.length) (a : α) : (l.set k a).Perm (a :: l.eraseIdx k) := by
  induction l generalizing k with
  | nil => exact absurd hk (Nat.not_lt_zero _)
  | cons x l ih =>
    cases k with
    | zero => exact List.Perm.refl _
    | succ k => exact ((ih (by simpa using hk)).cons x).trans (List.Perm.swap _ _ _)
section POR
variable {l : List Ent} {oz : Nat} {otr : Nat → Int32} {otn ork : Nat → Int64} {rk : Ent → Nat}
theorem PoR.nil : PoR [] 0 otr otn ork rk := Or.inl ⟨by simp, rfl, fun i h => absurd h (Nat.not_lt_zero i)⟩
theorem PoR.few (h : PoR l oz otr otn ork rk) (hz : oz ≤ 200) : l.length ≤ 200 ∧ oz = l.length ∧ PosI l otr otn ork rk := by
  rcases h with h | ⟨-, h⟩
  · exact h
  · omega
theorem PoR.sat (h : PoR l oz otr otn ork rk) (hz : 200 < oz) (m : List Ent) : PoR (l ++ m) oz otr otn ork rk := by
  rcases h with ⟨h1, h2, -⟩ | ⟨h1, h2⟩
  · omega
  · exact Or.inr ⟨by rw [List.length_append]; omega, h2⟩
theorem PoR.add {x : Ent} {m : Int64} (h : PoR l oz otr otn ork rk) (hz : oz ≤ 200) (hm : B64 m (fun c => c ∈ x.2)) : PoR (l ++ [x]) (oz + 1) (upd otr oz (nI x.1)) (vp_updL otn oz m) (vp_updL ork oz (lN (rk x))) rk := by
  obtain ⟨h1, h2, h3⟩ := h.few hz
  subst h2
  by_cases e : l.length = 200
  · exact Or.inr ⟨by rw [List.length_append, e]; exact Nat.lt_succ_self 200, by rw [e]⟩
  · refine Or.inl ⟨by rw [List.length_append]; show l.length + 1 ≤ 200; omega, by rw [List.length_append]; rfl, fun i hi => ?_⟩
    by_cases ei : i = l.length
    · subst ei
      rw [upd_at, updL_at, updL_at]
      have : (l ++ [x])[l.length]'hi = x := by simp
      rw [this]
      exact ⟨rfl, hm, rfl⟩
    · rw [upd_ne ei, updL_ne ei, updL_ne ei]
      have hi' : i < l.length := by rw [List.length_append] at hi; have : i < l.length + 1 := hi; omega
      have : (l ++ [x])[i]'hi = l[i] := List.getElem_append_left hi'
      rw [this]
      exact h3 i hi'
theorem PosI.remove {k : Nat} (h : PosI l otr otn ork rk) (h200 : l.length ≤ 200) (hk : k < l.length) : ∃ m, l.Perm (l[k] :: m) ∧ PoR m (l.length - 1) (upd otr k (otr (l.length - 1))) (vp_updL otn k (otn (l.length - 1))) (vp_updL ork k (ork (l.length - 1))) rk := by
  have hn : l ≠ [] := fun e => by rw [e] at hk; exact absurd hk (Nat.not_lt_zero _)
  have hl : l.length - 1 < l.length := by omega
  refine ⟨(l.set k (l[l.length - 1])).dropLast, ?_, Or.inl ⟨by rw [List.length_dropLast, List.length_set]; omega, by rw [List.length_dropLast, List.length_set], fun i hi => ?_⟩⟩
  · have hset := set_perm hk (l[l.length - 1])
    have her : (l[k] :: l.eraseIdx k).Perm l := by
      have q := set_perm hk l[k]
      rw [List.set_getElem_self] at q
      exact q.symm
    -- the changed row ends with its last
    have hns : l.set k (l[l.length - 1]) ≠ [] := fun e => hn (by simpa using congrArg List.length e)
    have hlast : (l.set k (l[l.length - 1])).getLast hns = l[l.length - 1] := by
      rw [List.getLast_eq_getElem, List.getElem_set]
      simp
    have h1 : (l.set k (l[l.length - 1])).Perm (l[l.length - 1] :: (l.set k (l[l.length - 1])).dropLast) := by
      conv => lhs; rw [← List.dropLast_concat_getLast hns, hlast]
      exact List.perm_append_comm
    have h2 : (l.eraseIdx k).Perm (l.set k (l[l.length - 1])).dropLast := (List.perm_cons _).mp (hset.symm.trans h1)
    exact her.symm.trans (h2.cons _)
  · have hi2 : i < l.length - 1 := by rw [List.length_dropLast, List.length_set] at hi; exact hi
    have e : ((l.set k (l[l.length - 1])).dropLast)[i]'hi = if k = i then l[l.length - 1] else l[i] := by
      rw [List.getElem_dropLast, List.getElem_set]
    rw [e]
    by_cases ek : i = k
    · subst ek
      rw [if_pos rfl, upd_at, updL_at, updL_at]
      exact h (l.length - 1) hl
    · rw [if_neg (fun q => ek q.symm), upd_ne ek, updL_ne ek, updL_ne ek]
      exact h i (by omega)
end POR
/-- the order of two entries, by places -/
theorem lex_at {pl : Nat → Nat} : ∀ {L M : List Nat} {p c d : Nat}, L.map pl = M.map pl → (L.map pl).Pairwise (· < ·) → (∀ q, q < p → ∀ z, (z ∈ L ∧ pl z = q) ↔ (z ∈ M ∧ pl z = q)) → c ∈ L → pl c = p → d ∈ M → pl d = p → c < d → lexlt L M := by
  intro L
  induction L with
  | nil => intro M p c d _ _ _ hc; cases hc
  | cons x L ih =>
    intro M p c d hm hs hq hc hcp hd hdp hlt
    cases M with
    | nil => cases hd
    | cons y M =>
      rw [List.map_cons, List.map_cons] at hm
      injection hm with h1 h2
      rw [List.map_cons] at hs
      have hs1 := (List.pairwise_cons.mp hs).1
      have hs2 := (List.pairwise_cons.mp hs).2
      have hx : ∀ z ∈ L, pl x < pl z := fun z hz => hs1 _ (List.mem_map_of_mem hz)
      have hy : ∀ z ∈ M, pl y < pl z := fun z hz => by rw [← h1]; exact hs1 _ (h2 ▸ List.mem_map_of_mem hz)
      rcases Nat.lt_trichotomy (pl x) p with hp | hp | hp
      · -- the first is the same
        have e : x = y := by
          have := (hq (pl x) hp x).mp ⟨List.mem_cons_self, rfl⟩
          rcases List.mem_cons.mp this.1 with e | e
          · exact e
          · have := hy x e; omega
        subst e
        refine Or.inr ⟨rfl, ih h2 hs2 (p := p) (c := c) (d := d) (fun q hqp z => ?_) ?_ hcp ?_ hdp hlt⟩
        · constructor
          · rintro ⟨hz, hzq⟩
            have := (hq q hqp z).mp ⟨List.mem_cons_of_mem _ hz, hzq⟩
            rcases List.mem_cons.mp this.1 with e | e
            · have := hx z hz; rw [e] at this; omega
            · exact ⟨e, hzq⟩
          · rintro ⟨hz, hzq⟩
            have := (hq q hqp z).mpr ⟨List.mem_cons_of_mem _ hz, hzq⟩
            rcases List.mem_cons.mp this.1 with e | e
            · have := hy z hz; rw [e] at this; omega
            · exact ⟨e, hzq⟩
        · rcases List.mem_cons.mp hc with e | e
          · rw [e] at hcp; omega
          · exact e
        · rcases List.mem_cons.mp hd with e | e
          · rw [e] at hdp; omega
          · exact e
      · have ec : c = x := by
          rcases List.mem_cons.mp hc with e | e
          · exact e
          · have := hx c e; omega
        have ed : d = y := by
          rcases List.mem_cons.mp hd with e | e
          · exact e
          · have := hy d e; omega
        exact Or.inl (by omega)
      · rcases List.mem_cons.mp hc with e | e
        · rw [e] at hcp; omega
        · have := hx c e; omega
def befR (rk : Ent → Nat) (x y : Ent) : Prop := rk x < rk y ∨ (rk x = rk y ∧ ltx x y)
theorem befR_trans {rk : Ent → Nat} {x y z : Ent} (h : befR rk x y) (q : befR rk y z) : befR rk x z := by
  rcases h with h | ⟨e, h⟩ <;> rcases q with q | ⟨e', q⟩
  · exact Or.inl (by omega)
  · exact Or.inl (by omega)
  · exact Or.inl (by omega)
  · exact Or.inr ⟨e.trans e', ltx_trans h q⟩
theorem befR_irr {rk : Ent → Nat} {x : Ent} : ¬ befR rk x x := by
  rintro (h | ⟨-, h⟩)
  · exact Nat.lt_irrefl _ h
  · exact ltx_asymm h h
/-- what is known of every entry: its conditions stand at its transition's places, in order -/
def EntI (pl : Nat → Nat) (ps : Nat → List Nat) (nc : Nat) (x : Ent) : Prop := x.2.map pl = ps x.1 ∧ (ps x.1).Pairwise (· < ·) ∧ (∀ p ∈ ps x.1, p < 8) ∧ ∀ c ∈ x.2, c < nc
section CB
variable {pl : Nat → Nat} {ps : Nat → List Nat} {nc p : Nat} {x y : Ent} {a b o : Int64}
theorem one_at {L : List Nat} (hs : (L.map pl).Pairwise (· < ·)) {c d : Nat} (hc : c ∈ L) (hd : d ∈ L) (e : pl c = pl d) : c = d := by
  induction L with
  | nil => cases hc
  | cons z L ih =>
    rw [List.map_cons] at hs
    have h1 := (List.pairwise_cons.mp hs).1
    rcases List.mem_cons.mp hc with rfl | hc' <;> rcases List.mem_cons.mp hd with rfl | hd'
    · rfl
    · have := h1 _ (List.mem_map_of_mem hd'); omega
    · have := h1 _ (List.mem_map_of_mem hc'); omega
    · exact ih (List.pairwise_cons.mp hs).2 hc' hd'
/-- the members at one place, as words -/
theorem at_mask (hx : EntI pl ps nc x) (h60 : nc ≤ 60) (ha : B64 a (fun c => c ∈ x.2)) (ho : B64 o (fun c => c < nc ∧ pl c = p)) : B64 (a &&& o) (fun c => c ∈ x.2 ∧ pl c = p) := (ha.and ho).congr fun c => ⟨fun q => ⟨q.1, q.2.2⟩, fun q => ⟨q.1, hx.2.2.2 c q.1, q.2⟩⟩
theorem mask_one {m : Int64} {c : Nat} (h : B64 m (fun z => z = c)) (hc : c < 62) : m = lN (2 ^ c) := by
  rw [← bit_eq62 c hc]; exact B64.ext h (B64.bit hc)
/-- at the first place where they differ -/
theorem cb_diff (hx : EntI pl ps nc x) (hy : EntI pl ps nc y) (ht : x.1 = y.1) (h60 : nc ≤ 60) (ha : B64 a (fun c => c ∈ x.2)) (hb : B64 b (fun c => c ∈ y.2)) (ho : B64 o (fun c => c < nc ∧ pl c = p)) (hne : ¬ (a &&& o) = (b &&& o)) :
    ∃ c d, c ∈ x.2 ∧ pl c = p ∧ d ∈ y.2 ∧ pl d = p ∧ c ≠ d ∧ ((a &&& o) < (b &&& o) ↔ c < d) := by
  have hA := at_mask hx h60 ha ho
  have hB := at_mask hy h60 hb ho
  have hpm : p ∈ ps x.1 := by
    refine Classical.byContradiction fun q => hne ?_
    have z1 : ∀ c, ¬ (c ∈ x.2 ∧ pl c = p) := fun c r => q (by rw [← hx.1]; exact r.2 ▸ List.mem_map_of_mem r.1)
    have z2 : ∀ c, ¬ (c ∈ y.2 ∧ pl c = p) := fun c r => q (by rw [ht, ← hy.1]; exact r.2 ▸ List.mem_map_of_mem r.1)
    rw [hA.nz.mpr z1, hB.nz.mpr z2]
  obtain ⟨c, hc, hcp⟩ := List.mem_map.mp (hx.1 ▸ hpm)
  obtain ⟨d, hd, hdp⟩ := List.mem_map.mp (hy.1 ▸ ht ▸ hpm)
  have sx : (x.2.map pl).Pairwise (· < ·) := by rw [hx.1]; exact hx.2.1
  have sy : (y.2.map pl).Pairwise (· < ·) := by rw [hy.1]; exact hy.2.1
  have eA := mask_one (hA.congr (q := fun z => z = c) fun z => ⟨fun r => one_at sx r.1 hc (r.2.trans hcp.symm), fun r => r ▸ ⟨hc, hcp⟩⟩) (by have := hx.2.2.2 c hc; omega)
  have eB := mask_one (hB.congr (q := fun z => z = d) fun z => ⟨fun r => one_at sy r.1 hd (r.2.trans hdp.symm), fun r => r ▸ ⟨hd, hdp⟩⟩) (by have := hy.2.2.2 d hd; omega)
  have hc60 := hx.2.2.2 c hc
  have hd60 := hy.2.2.2 d hd
  refine ⟨c, d, hc, hcp, hd, hdp, fun e => hne (by rw [eA, eB, e]), ?_⟩
  have p1 : 2 ^ c < 2 ^ 63 := Nat.pow_lt_pow_right (by decide) (by omega)
  have p2 : 2 ^ d < 2 ^ 63 := Nat.pow_lt_pow_right (by decide) (by omega)
  rw [eA, eB, lN_lt63 p1 p2]
  exact Nat.pow_lt_pow_iff_right (by decide)
theorem cb_same (hx : EntI pl ps nc x) (hy : EntI pl ps nc y) (h60 : nc ≤ 60) (ha : B64 a (fun c => c ∈ x.2)) (hb : B64 b (fun c => c ∈ y.2)) (ho : B64 o (fun c => c < nc ∧ pl c = p)) (he : (a &&& o) = (b &&& o)) : ∀ z, (z ∈ x.2 ∧ pl z = p) ↔ (z ∈ y.2 ∧ pl z = p) := fun z =>
  ((at_mask hx h60 ha ho) z).symm.trans (by rw [he]; exact (at_mask hy h60 hb ho) z)
end CB
theorem too_1 {z : Nat} (h : ¬ tooM z = 0) : 200 < z := by
  rcases Nat.lt_or_ge 200 z with q | q
  · exact q
  · exact absurd (by unfold tooM; rw [if_neg (by omega)]) h
section CB2
variable {pl : Nat → Nat} {ps : Nat → List Nat} {nc p : Nat} {x y : Ent} {m n : Int64} {rk : Ent → Nat}
theorem cb_r0 (h : ¬ rk x = rk y) (h2 : rk y ≤ rk x) : ¬ befR rk x y := by
  rintro (q | ⟨q, -⟩)
  · omega
  · exact h q
theorem cb_t0 (h : rk x = rk y) (ht : ¬ x.1 = y.1) (h2 : y.1 ≤ x.1) : ¬ befR rk x y := by
  rintro (q | ⟨-, q | ⟨q, -⟩⟩)
  · omega
  · omega
  · exact ht q
theorem cb_y (hx : EntI pl ps nc x) (hy : EntI pl ps nc y) (ht : x.1 = y.1) (hq : ∀ q, q < p → ∀ z, (z ∈ x.2 ∧ pl z = q) ↔ (z ∈ y.2 ∧ pl z = q)) (hd : ∃ c d, c ∈ x.2 ∧ pl c = p ∧ d ∈ y.2 ∧ pl d = p ∧ c ≠ d ∧ (m < n ↔ c < d)) (hlt : m < n) : lexlt x.2 y.2 := by
  obtain ⟨c, d, h1, h2, h3, h4, -, h6⟩ := hd
  exact lex_at (hx.1.trans (ht ▸ hy.1.symm)) (by rw [hx.1]; exact hx.2.1) hq h1 h2 h3 h4 (h6.mp hlt)
theorem cb_n (he : rk x = rk y) (ht : x.1 = y.1) (hx : EntI pl ps nc x) (hy : EntI pl ps nc y) (hq : ∀ q, q < p → ∀ z, (z ∈ x.2 ∧ pl z = q) ↔ (z ∈ y.2 ∧ pl z = q)) (hd : ∃ c d, c ∈ x.2 ∧ pl c = p ∧ d ∈ y.2 ∧ pl d = p ∧ c ≠ d ∧ (m < n ↔ c < d)) (hlt : ¬ m < n) : ¬ befR rk x y := by
  obtain ⟨c, d, h1, h2, h3, h4, h5, h6⟩ := hd
  have hcd : d < c := by
    have : ¬ c < d := fun q => hlt (h6.mpr q)
    omega
  have := lex_at (hy.1.trans (ht ▸ hx.1.symm)) (by rw [hy.1]; exact hy.2.1) (fun q hqp z => (hq q hqp z).symm) h3 h4 h1 h2 hcd
  rintro (q | ⟨-, q | ⟨-, q⟩⟩)
  · omega
  · omega
  · exact lexlt_asymm this q
theorem cb_e (he : rk x = rk y) (ht : x.1 = y.1) (hx : EntI pl ps nc x) (hy : EntI pl ps nc y) (hq : ∀ q, q < 8 → ∀ z, (z ∈ x.2 ∧ pl z = q) ↔ (z ∈ y.2 ∧ pl z = q)) : ¬ befR rk x y := by
  have : x.2 = y.2 := nodup_eq (pl := pl) (hx.1.trans (ht ▸ hy.1.symm)) (by rw [hx.1]; exact hx.2.1.imp (fun {a b} q => Nat.ne_of_lt q)) (fun z => by
    constructor
    · intro hz
      exact ((hq (pl z) (hx.2.2.1 _ (hx.1 ▸ List.mem_map_of_mem hz)) z).mp ⟨hz, rfl⟩).1
    · intro hz
      exact ((hq (pl z) (hy.2.2.1 _ (hy.1 ▸ List.mem_map_of_mem hz)) z).mpr ⟨hz, rfl⟩).1)
  have e : x = y := Prod.ext ht this
  rw [e]
  exact befR_irr
end CB2
