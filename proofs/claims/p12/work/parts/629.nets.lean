/-! Both sides hold one net, and the rows of one prefix. -/
def NetE (nz mt : Nat) (np nq mp mq : Nat → Int32) (nf mf : Int32) : Prop := (nz = mt) ∧ (∀ t, t < nz → np t = mp t) ∧ (∀ t, t < nz → nq t = mq t) ∧ (nf = mf) ∧ (∃ n, n < 256 ∧ nf = nI n)
theorem NetE.z {nz mt : Nat} {np nq mp mq : Nat → Int32} {nf mf : Int32} (h : NetE nz mt np nq mp mq nf mf) : nz = mt := h.1
theorem NetE.p {nz mt : Nat} {np nq mp mq : Nat → Int32} {nf mf : Int32} (h : NetE nz mt np nq mp mq nf mf) : ∀ t, t < nz → np t = mp t := h.2.1
theorem NetE.q {nz mt : Nat} {np nq mp mq : Nat → Int32} {nf mf : Int32} (h : NetE nz mt np nq mp mq nf mf) : ∀ t, t < nz → nq t = mq t := h.2.2.1
theorem NetE.f {nz mt : Nat} {np nq mp mq : Nat → Int32} {nf mf : Int32} (h : NetE nz mt np nq mp mq nf mf) : nf = mf := h.2.2.2.1
theorem NetE.fb {nz mt : Nat} {np nq mp mq : Nat → Int32} {nf mf : Int32} (h : NetE nz mt np nq mp mq nf mf) : ∃ n, n < 256 ∧ nf = nI n := h.2.2.2.2
def iNat (x : Int32) : Nat := x.toInt.toNat
theorem iNat_nI {n : Nat} (h : n < 2 ^ 31) : iNat (nI n) = n := by unfold iNat; rw [nI_toInt h]; simp
def netOf (nz : Nat) (np nq : Nat → Int32) (nf : Int32) : Net8 := Net8.mk (nz) (fun t p => (iNat (np t)).testBit p) (fun t p => (iNat (nq t)).testBit p) (fun p => (iNat nf).testBit p)
theorem ex_bit : ∀ n, n < 256 → 1 ≤ n → ∃ p, p < 8 ∧ n.testBit p = true := by decide +kernel
section NETE
variable {nz mt : Nat} {np nq mp mq : Nat → Int32} {nf mf : Int32}
theorem NetE.zero : NetE 0 0 np nq mp mq 0 0 := ⟨rfl, fun t h => absurd h (Nat.not_lt_zero t), fun t h => absurd h (Nat.not_lt_zero t), rfl, 0, by decide, rfl⟩
theorem NetE.push (h : NetE nz mt np nq mp mq nf mf) (x y : Int32) : NetE (nz + 1) (mt + 1) (upd np nz x) (upd nq nz y) (upd mp mt x) (upd mq mt y) nf mf := by
  have e := h.z
  subst e
  refine ⟨rfl, fun t ht => ?_, fun t ht => ?_, h.f, h.fb⟩
  · by_cases e : t = nz
    · rw [e, upd_at, upd_at]
    · rw [upd_ne e, upd_ne e]; exact h.p t (by omega)
  · by_cases e : t = nz
    · rw [e, upd_at, upd_at]
    · rw [upd_ne e, upd_ne e]; exact h.q t (by omega)
theorem NetE.first (h : NetE nz mt np nq mp mq nf mf) {x : Int32} (hx : ¬ isMv x = 0) : NetE nz mt np nq mp mq x x := ⟨h.z, h.p, h.q, rfl, isMv_ok hx⟩
theorem NetE.mpX (h : NetE nz mt np nq mp mq nf mf) (hp : PreI mp mt) {t : Nat} (ht : t < mt) : ∃ n, n < 256 ∧ 1 ≤ n ∧ mp t = nI n ∧ np t = nI n ∧ ∀ p, p < 8 → (netOf nz np nq nf).pr t p = n.testBit p := by
  obtain ⟨k, hk, h1, e⟩ := hp t ht
  have e2 : np t = nI k := (h.p t (by rw [h.z]; exact ht)).trans e
  refine ⟨k, hk, h1, e, e2, fun p _ => ?_⟩
  show (iNat (np t)).testBit p = _
  rw [e2, iNat_nI (by omega)]
theorem NetE.mqX (h : NetE nz mt np nq mp mq nf mf) (h8 : mt ≤ 8) (hq : AllLt mq 8 256) {t : Nat} (ht : t < mt) : ∃ n, n < 256 ∧ mq t = nI n ∧ nq t = nI n ∧ ∀ p, p < 8 → (netOf nz np nq nf).po t p = n.testBit p := by
  obtain ⟨k, hk, e⟩ := hq t (by omega)
  have e2 : nq t = nI k := (h.q t (by rw [h.z]; exact ht)).trans e
  refine ⟨k, hk, e, e2, fun p _ => ?_⟩
  show (iNat (nq t)).testBit p = _
  rw [e2, iNat_nI (by omega)]
theorem NetE.mfX (h : NetE nz mt np nq mp mq nf mf) : ∃ n, n < 256 ∧ nf = nI n ∧ ∀ p, p < 8 → (netOf nz np nq nf).fi p = n.testBit p := by
  obtain ⟨n, hn, e⟩ := h.fb
  refine ⟨n, hn, e, fun p _ => ?_⟩
  show (iNat nf).testBit p = _
  rw [e, iNat_nI (by omega)]
theorem NetE.rep (h : NetE nz mt np nq mp mq nf mf) (h8 : mt ≤ 8) (hp : PreI mp mt) (hq : AllLt mq 8 256) : NetR (netOf nz np nq nf) nz np nq nf := ⟨(rfl),
  (by show nz ≤ 8; rw [h.z]; exact h8),
  (fun t ht => by
    obtain ⟨k, hk, _, _, e, b⟩ := h.mpX hp (t := t) (by rw [← h.z]; exact ht)
    exact nq_B hk e b),
  (fun t ht => by
    obtain ⟨k, hk, _, e, b⟩ := h.mqX h8 hq (t := t) (by rw [← h.z]; exact ht)
    exact ⟨k, hk, e, b⟩),
  (h.mfX),
  (fun t ht => by
    obtain ⟨k, hk, h1, _, e, b⟩ := h.mpX hp (t := t) (by rw [← h.z]; exact ht)
    obtain ⟨p, hp8, hpb⟩ := ex_bit k hk h1
    exact ⟨p, hp8, (b p hp8).trans hpb⟩)⟩
theorem NetE.mpE (h : NetE nz mt np nq mp mq nf mf) (hp : PreI mp mt) : ∀ t, t < mt → ∃ n, n < 256 ∧ 1 ≤ n ∧ mp t = nI n ∧ plc ((netOf nz np nq nf).pr t) = psN n := fun t ht => by
  obtain ⟨k, hk, h1, e, _, b⟩ := h.mpX hp ht
  exact ⟨k, hk, h1, e, plc_psN b⟩
theorem NetE.mqE (h : NetE nz mt np nq mp mq nf mf) (h8 : mt ≤ 8) (hq : AllLt mq 8 256) : ∀ t, t < mt → ∃ n, n < 256 ∧ mq t = nI n ∧ ∀ p, p < 8 → (netOf nz np nq nf).po t p = n.testBit p := fun t ht => by
  obtain ⟨k, hk, e, _, b⟩ := h.mqX h8 hq ht
  exact ⟨k, hk, e, b⟩
theorem NetE.mpB (h : NetE nz mt np nq mp mq nf mf) (hp : PreI mp mt) : ∀ t, t < mt → B32 (mp t) (fun p => p < 8 ∧ (netOf nz np nq nf).pr t p = true) := fun t ht => by
  obtain ⟨k, hk, _, e, _, b⟩ := h.mpX hp ht
  exact nq_B hk e b
theorem NetE.mfE (h : NetE nz mt np nq mp mq nf mf) : ∃ n, n < 256 ∧ mf = nI n ∧ ∀ p, p < 8 → (netOf nz np nq nf).fi p = n.testBit p := by
  obtain ⟨n, hn, e, b⟩ := h.mfX
  exact ⟨n, hn, h.f ▸ e, b⟩
end NETE
/-- an event's rank tells how many there are behind it -/
def PxRk (P : Px) : Prop := ∀ a, a < P.ne → P.rk a / 2 ^ 40 = szX (fun f => P.cs a f = true) (a + 1)
theorem succ_rk {N : Net8} {P : Px} {x : Ent} (hO : PxOk N P) (h : PxRk P) : PxRk (P.succ N x) := fun a ha => by
  have ha : a < P.ne + 1 := ha
  by_cases e : a < P.ne
  · have e1 : (P.succ N x).rk a = P.rk a := by show (if a < P.ne then _ else _) = _; rw [if_pos e]
    have e2 : (fun f => (P.succ N x).cs a f = true) = fun f => P.cs a f = true := by
      funext f
      show ((if a < P.ne then P.cs a f else _) = true) = _
      rw [if_pos e]
    rw [e1, e2]; exact h a e
  · have e0 : a = P.ne := by omega
    subst e0
    have e1 : (P.succ N x).rk P.ne = P.rkv x := by show (if P.ne < P.ne then _ else _) = _; rw [if_neg (by omega)]
    have e2 : ∀ f, (P.succ N x).cs P.ne f = true ↔ (f = P.ne ∨ ∃ c, c ∈ x.2 ∧ P.bh c f) := fun f => ext_cs_new (P := P) (t := x.1) (L := x.2) (k := P.cutB N x) (ps := plc (N.po x.1)) (mv := P.mkg N x) (rv := P.rkv x) f
    have e3 : P.rkv x = keyX (P.beh x.2) P.tr x.1 P.ne (szX (P.beh x.2) P.ne + 1) 8 := rkv_X x.1 x.2 (fun _ => Iff.rfl)
    have e4 : szX (fun f => (P.succ N x).cs P.ne f = true) (P.ne + 1) = szX (P.beh x.2) P.ne + 1 := by
      unfold szX
      rw [cnt_succ, if_pos (bP_iff.mpr ((e2 _).mpr (Or.inl rfl)))]
      congr 1
      refine cnt_congr fun w hw => ?_
      rw [Bool.eq_iff_iff, bP_iff, bP_iff]
      exact (e2 w).trans ⟨fun q => q.resolve_left (by omega), Or.inr⟩
    rw [e1, e3, e4]
    unfold keyX
    have := rowF_lt (cuX (P.beh x.2) P.tr x.1 P.ne) 8
    have e5 : (32 : Nat) ^ 8 = 2 ^ 40 := by decide
    rw [e5] at this ⊢
    rw [Nat.mul_comm, Nat.mul_add_div (by decide), Nat.div_eq_of_lt this]
theorem unfB_P {N : Net8} {P P' : Px} {r : Int} (h : unfB N P r P') : P' = P ∧ (r = -2 ∨ r = -3 ∨ r = P'.ne) := by
  rcases h with ⟨_, e, f⟩ | ⟨_, e, f⟩ | ⟨_, _, _, _, e, f⟩ | ⟨_, _, _, _, _, e, f⟩ | ⟨_, _, _, _, _, _, e, f⟩ <;> subst f <;> refine ⟨rfl, ?_⟩
  · exact Or.inr (Or.inl e)
  · exact Or.inr (Or.inr e)
  · exact Or.inl e
  · exact Or.inr (Or.inl e)
  · exact Or.inr (Or.inl e)
theorem Unf.keeps {N : Net8} {P P' : Px} {r : Int} (hN : NetOk N) (h : Unf N P r P') (hO : PxOk N P) (hk : PxRk P) : PxOk N P' ∧ PxRk P' := by
  obtain ⟨n, h⟩ := h
  exact unfN_ind (M := fun P _ P' => PxOk N P → PxRk P → PxOk N P' ∧ PxRk P') (fun P r P' q a b => by rw [(unfB_P q).1]; exact ⟨a, b⟩) (fun P P' x r _ hb hr _ _ ih a b => ih (succ_ok hN a hb hr) (succ_rk a b)) n P r P' h hO hk
theorem Unf.vals {N : Net8} {P P' : Px} {r : Int} (h : Unf N P r P') : r = -2 ∨ r = -3 ∨ r = P'.ne := by
  obtain ⟨n, h⟩ := h
  exact unfN_ind (M := fun _ r P' => r = -2 ∨ r = -3 ∨ r = P'.ne) (fun P r P' q => (unfB_P q).2) (fun P P' x r _ _ _ _ _ ih => ih) n P r P' h
theorem ofInt_m3 : ∀ n, n ≤ 30 → Int32.ofInt (n : Nat) ≠ -3 := by decide
theorem Unf.room {N : Net8} {P P' : Px} {r : Int} (h : Unf N P r P') (h30 : P'.ne ≤ 30) (e : Int32.ofInt r = -3) : r = -3 := by
  rcases h.vals with q | q | q
  · subst q; exact absurd e (by decide)
  · exact q
  · subst q; exact absurd e (ofInt_m3 _ h30)
theorem Unf.noroom {r : Int} (e : ¬ Int32.ofInt r = -3) : r ≠ -3 := fun q => e (by subst q; decide)
/-- the rows of both sides: none, or those of one prefix -/
def PxE (pfc pfe : Nat) (pfu : Int32) (fpl fmk ftk : Nat → Int32) (fbs fop : Nat → Int64) (ftr : Nat → Int32) (ftn : Nat → Int64) (fca fma : Nat → Int32) (frk : Nat → Int64) (mcd mev : Nat) (gpl gmk gbh : Nat → Int32) (gbs : Nat → Int64) (gtr : Nat → Int32) (gtn : Nat → Int64) (gtk : Nat → Int32) (grk : Nat → Int64) (gma gcu : Nat → Int32) : Prop :=
  (pfc = 0 ∧ pfe = 0 ∧ mcd = 0 ∧ mev = 0) ∨ ∃ N P, PxOk N P ∧ PxRk P ∧ RepC P pfc pfe pfu fpl fmk ftk fbs fop ftr ftn fca fma frk ∧ RepM N P mcd mev gpl gmk gbh gbs gtr gtn gtk grk gma gcu
section PXE
variable {pfc pfe pfc1 pfe1 : Nat} {pfu pfu1 : Int32} {fpl fmk ftk : Nat → Int32} {fbs fop fop1 : Nat → Int64} {ftr : Nat → Int32} {ftn : Nat → Int64} {fca fma : Nat → Int32} {frk : Nat → Int64} {mcd mev mcd1 mev1 : Nat} {gpl gmk gbh : Nat → Int32} {gbs : Nat → Int64} {gtr : Nat → Int32} {gtn : Nat → Int64} {gtk : Nat → Int32} {grk : Nat → Int64} {gma gcu : Nat → Int32}
theorem PxE.none : PxE 0 0 pfu fpl fmk ftk fbs fop ftr ftn fca fma frk 0 0 gpl gmk gbh gbs gtr gtn gtk grk gma gcu := Or.inl ⟨rfl, rfl, rfl, rfl⟩
theorem PxE.unf {N : Net8} {g1 g2 : Int × Px} (hN : NetOk N) (h1 : Unf N (px0 (plc N.fi)) g1.1 g1.2) (h2 : Unf N (px0 (plc N.fi)) g2.1 g2.2)
    (hc : (g1.1 = -3 ∧ pfc = 0 ∧ pfe = 0) ∨ (g1.1 ≠ -3 ∧ RepC g1.2 pfc pfe pfu fpl fmk ftk fbs fop ftr ftn fca fma frk)) (hm : (g2.1 = -3 ∧ mev = 0 ∧ mcd = 0) ∨ (g2.1 ≠ -3 ∧ RepM N g2.2 mcd mev gpl gmk gbh gbs gtr gtn gtk grk gma gcu)) : PxE pfc pfe pfu fpl fmk ftk fbs fop ftr ftn fca fma frk mcd mev gpl gmk gbh gbs gtr gtn gtk grk gma gcu := by
  obtain ⟨e1, e2⟩ := h1.det h2
  rcases hc with ⟨a, b, c⟩ | ⟨a, b⟩ <;> rcases hm with ⟨a', b', c'⟩ | ⟨a', b'⟩
  · exact Or.inl ⟨b, c, c', b'⟩
  · exact absurd (e1 ▸ a) a'
  · exact absurd (e1.trans a') a
  · have k := h1.keeps hN (px0_ok N) (fun a ha => absurd ha (Nat.not_lt_zero a))
    exact Or.inr ⟨N, g1.2, k.1, k.2, b, e2 ▸ b'⟩
theorem unf_same {N : Net8} {g1 g2 : Int × Px} {P : Px} {r1 r2 : Int32} (h1 : r1 = Int32.ofInt g1.1 ∧ Unf N P g1.1 g1.2) (h2 : r2 = Int32.ofInt g2.1 ∧ Unf N P g2.1 g2.2) : r1 = r2 := by
  rw [h1.1, h2.1, (h1.2.det h2.2).1]
/-- a transition was added, or refused, on both sides -/
theorem tr_net {x y : Int32} {nz mt nz1 mt1 : Nat} {np nq mp mq np1 nq1 mp1 mq1 : Nat → Int32} {nf mf : Int32} {A B C D : Prop} (h : NetE nz mt np nq mp mq nf mf) (h1 : (trv x y nz = 0 ∧ nz1 = nz + 1 ∧ A ∧ np1 = upd np nz x ∧ nq1 = upd nq nz y ∧ B) ∨ (¬ trv x y nz = 0 ∧ nz1 = nz ∧ np1 = np ∧ nq1 = nq ∧ C))
    (h2 : (trv x y mt = 0 ∧ mt1 = mt + 1 ∧ mp1 = upd mp mt x ∧ mq1 = upd mq mt y ∧ D) ∨ (¬ trv x y mt = 0 ∧ mt1 = mt ∧ mp1 = mp ∧ mq1 = mq ∧ mev1 = mev ∧ mcd1 = mcd)) : NetE nz1 mt1 np1 nq1 mp1 mq1 nf mf := by
  have e := h.z
  rcases h1 with ⟨a, rfl, -, rfl, rfl, -⟩ | ⟨a, rfl, rfl, rfl, -⟩ <;> rcases h2 with ⟨a', rfl, rfl, rfl, -⟩ | ⟨a', rfl, rfl, rfl, -⟩
  · exact h.push x y
  · exact absurd (e ▸ a) a'
  · exact absurd (e.symm ▸ a') a
  · exact h
theorem tr_px {x y : Int32} {nz mt nz1 mt1 : Nat} {A B C D E F G F' G' : Prop} (hz : nz = mt) (h : PxE pfc pfe pfu fpl fmk ftk fbs fop ftr ftn fca fma frk mcd mev gpl gmk gbh gbs gtr gtn gtk grk gma gcu) (h1 : (trv x y nz = 0 ∧ nz1 = nz + 1 ∧ A ∧ B ∧ C ∧ pfc1 = 0 ∧ pfe1 = 0) ∨ (¬ trv x y nz = 0 ∧ nz1 = nz ∧ D ∧ E ∧ pfc1 = pfc ∧ pfe1 = pfe ∧ pfu1 = pfu ∧ fop1 = fop))
    (h2 : (trv x y mt = 0 ∧ mt1 = mt + 1 ∧ F ∧ G ∧ mev1 = 0 ∧ mcd1 = 0) ∨ (¬ trv x y mt = 0 ∧ mt1 = mt ∧ F' ∧ G' ∧ mev1 = mev ∧ mcd1 = mcd)) : PxE pfc1 pfe1 pfu1 fpl fmk ftk fbs fop1 ftr ftn fca fma frk mcd1 mev1 gpl gmk gbh gbs gtr gtn gtk grk gma gcu := by
  subst hz
  rcases h1 with ⟨a, -, -, -, -, rfl, rfl⟩ | ⟨a, -, -, -, rfl, rfl, rfl, rfl⟩ <;> rcases h2 with ⟨a', -, -, -, rfl, rfl⟩ | ⟨a', -, -, -, rfl, rfl⟩
  · exact PxE.none
  · exact absurd a a'
  · exact absurd a' a
  · exact h
theorem fs_net {x : Int32} {nz mt : Nat} {np nq mp mq : Nat → Int32} {nf mf nf1 mf1 : Int32} {A B C D : Prop} (h : NetE nz mt np nq mp mq nf mf) (h1 : (isMv x = 0 ∧ nf1 = nf ∧ A) ∨ (¬ isMv x = 0 ∧ nf1 = x ∧ B)) (h2 : (isMv x = 0 ∧ mf1 = mf ∧ C) ∨ (¬ isMv x = 0 ∧ mf1 = x ∧ D)) : NetE nz mt np nq mp mq nf1 mf1 := by
  rcases h1 with ⟨a, rfl, -⟩ | ⟨a, rfl, -⟩ <;> rcases h2 with ⟨a', rfl, -⟩ | ⟨a', e, -⟩
  · exact h
  · exact absurd a a'
  · exact absurd a' a
  · subst e; exact h.first a
theorem fs_px {x : Int32} {nf mf nf1 mf1 : Int32} (h : PxE pfc pfe pfu fpl fmk ftk fbs fop ftr ftn fca fma frk mcd mev gpl gmk gbh gbs gtr gtn gtk grk gma gcu) (h1 : (isMv x = 0 ∧ nf1 = nf ∧ pfc1 = pfc ∧ pfe1 = pfe ∧ pfu1 = pfu ∧ fop1 = fop) ∨ (¬ isMv x = 0 ∧ nf1 = x ∧ pfc1 = 0 ∧ pfe1 = 0)) (h2 : (isMv x = 0 ∧ mf1 = mf ∧ mev1 = mev ∧ mcd1 = mcd) ∨ (¬ isMv x = 0 ∧ mf1 = x ∧ mev1 = 0 ∧ mcd1 = 0)) : PxE pfc1 pfe1 pfu1 fpl fmk ftk fbs fop1 ftr ftn fca fma frk mcd1 mev1 gpl gmk gbh gbs gtr gtn gtk grk gma gcu := by
  rcases h1 with ⟨a, -, rfl, rfl, rfl, rfl⟩ | ⟨a, -, rfl, rfl⟩ <;> rcases h2 with ⟨a', -, rfl, rfl⟩ | ⟨a', -, rfl, rfl⟩
  · exact h
  · exact absurd a a'
  · exact absurd a' a
  · exact PxE.none
end PXE
theorem all_put {np : Nat → Int32} {n nz : Nat} {x : Int32} (h : AllLt np n 256) (hx : ¬ isMv x = 0) : AllLt (upd np nz x) n 256 := by
  obtain ⟨k, hk, rfl⟩ := isMv_ok hx
  exact AllLt.put h hk
