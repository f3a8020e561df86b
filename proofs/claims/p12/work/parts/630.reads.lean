/-! What the calls that read the rows answer. -/
def evV (n : Nat) (f0 f1 f2 f3 : Nat → Int32) (x y : Int32) : Int32 := if x < 0 ∨ ¬ x < nI n then -1 else if y = 0 then f0 (iNat x) else if y = 1 then f1 (iNat x) else if y = 2 then f2 (iNat x) else if y = 3 then f3 (iNat x) else -1
def cdV (n : Nat) (f0 f1 f2 : Nat → Int32) (x y : Int32) : Int32 := if x < 0 ∨ ¬ x < nI n then -1 else if y = 0 then f0 (iNat x) else if y = 1 then f1 (iNat x) else if y = 2 then f2 (iNat x) else -1
def cnV (n : Nat) (f : Nat → Int64) (x y : Int32) : Int32 := if (x < 0 ∨ ¬ x < nI n) ∨ (y < 0 ∨ ¬ y < nI n) then 0 else hasv (f (iNat x)) (iNat y)
def tkv (L : List Nat) (y : Int32) : Int32 := if y < 0 ∨ ¬ y < nI L.length then -1 else nI (L.getD (iNat y) 0)
def tkV (n : Nat) (LL : Nat → List Nat) (x y : Int32) : Int32 := if x < 0 ∨ ¬ x < nI n then -1 else tkv (LL (iNat x)) y
def tmV (n : Nat) (g : Nat → Int32) (x y : Int32) : Int32 := if x < 0 ∨ ¬ x < nI n then -1 else if y < 0 ∨ ¬ y < nI 8 then -1 else g (8 * iNat x + iNat y)
theorem getD_at {L : List Nat} {q : Nat} (h : q < L.length) : L.getD q 0 = L[q] := by simp [List.getD, h]
theorem in_nI {n j : Nat} (hj : j < n) (hn : n ≤ 60) : ¬ (nI j < 0 ∨ ¬ nI j < nI n) := by
  rintro (q | q)
  · have := (nI_ltI (a := j) (b := 0) (by omega) (by omega)).mp q
    omega
  · exact q ((nI_ltI (a := j) (b := n) (by omega) (by omega)).mpr hj)
theorem in_of {x : Int32} {n : Nat} (hn : n ≤ 60) (h : ¬ (x < 0 ∨ ¬ x < nI n)) : ∃ j, j < n ∧ x = nI j := ix_of (by omega) (fun q => h (Or.inl q)) (Classical.byContradiction fun q => h (Or.inr q))
theorem out_ge {x : Int32} {n : Nat} (hn : n ≤ 60) (h : x < 0 ∨ (nI n - 1) < x) : x < 0 ∨ ¬ x < nI n := by
  rcases h with h | h
  · exact Or.inl h
  · by_cases h0 : x < 0
    · exact Or.inl h0
    · refine Or.inr fun q => ?_
      obtain ⟨j, hj, rfl⟩ := ix_of (by omega) h0 q
      have e : nI n - 1 = nI (n - 1) := cv_sub (b := 1) (by omega)
      rw [e, nI_ltI (by omega) (by omega)] at h
      omega
theorem lt_n4 {y : Int32} (h : y < 0 ∨ 3 < y) : ¬ y = 0 ∧ ¬ y = 1 ∧ ¬ y = 2 ∧ ¬ y = 3 := by
  refine ⟨?_, ?_, ?_, ?_⟩ <;> (rintro rfl; revert h; decide)
theorem lt_n3 {y : Int32} (h : y < 0 ∨ 2 < y) : ¬ y = 0 ∧ ¬ y = 1 ∧ ¬ y = 2 := by
  refine ⟨?_, ?_, ?_⟩ <;> (rintro rfl; revert h; decide)
theorem is_3 {y : Int32} (h : ¬ y < 0 ∧ ¬ 3 < y) (h0 : ¬ y = 0) (h1 : ¬ y = 1) (h2 : ¬ y = 2) : y = 3 := by
  obtain ⟨j, hj, rfl⟩ := ix_c (n := 3) (by omega) h.1 h.2
  have : j = 0 ∨ j = 1 ∨ j = 2 ∨ j = 3 := by omega
  rcases this with rfl | rfl | rfl | rfl
  · exact absurd rfl h0
  · exact absurd rfl h1
  · exact absurd rfl h2
  · rfl
theorem is_2 {y : Int32} (h : ¬ y < 0 ∧ ¬ 2 < y) (h0 : ¬ y = 0) (h1 : ¬ y = 1) : y = 2 := by
  obtain ⟨j, hj, rfl⟩ := ix_c (n := 2) (by omega) h.1 h.2
  have : j = 0 ∨ j = 1 ∨ j = 2 := by omega
  rcases this with rfl | rfl | rfl
  · exact absurd rfl h0
  · exact absurd rfl h1
  · rfl
section EVV
variable {n j : Nat} {f0 f1 f2 f3 : Nat → Int32} {x y v : Int32}
theorem evV_out (h : x < 0 ∨ ¬ x < nI n) : -1 = evV n f0 f1 f2 f3 x y := by unfold evV; rw [if_pos h]
theorem evV_n (h0 : ¬ y = 0) (h1 : ¬ y = 1) (h2 : ¬ y = 2) (h3 : ¬ y = 3) : -1 = evV n f0 f1 f2 f3 x y := by
  by_cases q : x < 0 ∨ ¬ x < nI n
  · unfold evV; rw [if_pos q]
  · unfold evV; rw [if_neg q, if_neg h0, if_neg h1, if_neg h2, if_neg h3]
theorem evV_0 (hj : j < n) (hn : n ≤ 60) (hy : y = 0) (e : f0 j = v) : v = evV n f0 f1 f2 f3 (nI j) y := by
  unfold evV; rw [if_neg (in_nI hj hn), if_pos hy, iNat_nI (by omega), e]
theorem evV_1 (hj : j < n) (hn : n ≤ 60) (hy : y = 1) (e : f1 j = v) : v = evV n f0 f1 f2 f3 (nI j) y := by
  subst hy; unfold evV; rw [if_neg (in_nI hj hn), if_neg (by decide), if_pos rfl, iNat_nI (by omega), e]
theorem evV_2 (hj : j < n) (hn : n ≤ 60) (hy : y = 2) (e : f2 j = v) : v = evV n f0 f1 f2 f3 (nI j) y := by
  subst hy; unfold evV; rw [if_neg (in_nI hj hn), if_neg (by decide), if_neg (by decide), if_pos rfl, iNat_nI (by omega), e]
theorem evV_3 (hj : j < n) (hn : n ≤ 60) (hy : y = 3) (e : f3 j = v) : v = evV n f0 f1 f2 f3 (nI j) y := by
  subst hy; unfold evV; rw [if_neg (in_nI hj hn), if_neg (by decide), if_neg (by decide), if_neg (by decide), if_pos rfl, iNat_nI (by omega), e]
theorem evV_eq {g0 g1 g2 g3 : Nat → Int32} (hn : n ≤ 60) (h : ∀ j, j < n → f0 j = g0 j ∧ f1 j = g1 j ∧ f2 j = g2 j ∧ f3 j = g3 j) : evV n f0 f1 f2 f3 x y = evV n g0 g1 g2 g3 x y := by
  by_cases q : x < 0 ∨ ¬ x < nI n
  · rw [← evV_out q, ← evV_out q]
  · obtain ⟨j, hj, rfl⟩ := in_of hn q
    obtain ⟨a, b, c, d⟩ := h j hj
    unfold evV
    rw [if_neg q, if_neg q, iNat_nI (by omega), a, b, c, d]
theorem cdV_out (h : x < 0 ∨ ¬ x < nI n) : -1 = cdV n f0 f1 f2 x y := by unfold cdV; rw [if_pos h]
theorem cdV_n (h0 : ¬ y = 0) (h1 : ¬ y = 1) (h2 : ¬ y = 2) : -1 = cdV n f0 f1 f2 x y := by
  by_cases q : x < 0 ∨ ¬ x < nI n
  · unfold cdV; rw [if_pos q]
  · unfold cdV; rw [if_neg q, if_neg h0, if_neg h1, if_neg h2]
theorem cdV_0 (hj : j < n) (hn : n ≤ 60) (hy : y = 0) (e : f0 j = v) : v = cdV n f0 f1 f2 (nI j) y := by
  unfold cdV; rw [if_neg (in_nI hj hn), if_pos hy, iNat_nI (by omega), e]
theorem cdV_1 (hj : j < n) (hn : n ≤ 60) (hy : y = 1) (e : f1 j = v) : v = cdV n f0 f1 f2 (nI j) y := by
  subst hy; unfold cdV; rw [if_neg (in_nI hj hn), if_neg (by decide), if_pos rfl, iNat_nI (by omega), e]
theorem cdV_2 (hj : j < n) (hn : n ≤ 60) (hy : y = 2) (e : f2 j = v) : v = cdV n f0 f1 f2 (nI j) y := by
  subst hy; unfold cdV; rw [if_neg (in_nI hj hn), if_neg (by decide), if_neg (by decide), if_pos rfl, iNat_nI (by omega), e]
theorem cdV_eq {g0 g1 g2 : Nat → Int32} (hn : n ≤ 60) (h : ∀ j, j < n → f0 j = g0 j ∧ f1 j = g1 j ∧ f2 j = g2 j) : cdV n f0 f1 f2 x y = cdV n g0 g1 g2 x y := by
  by_cases q : x < 0 ∨ ¬ x < nI n
  · rw [← cdV_out q, ← cdV_out q]
  · obtain ⟨j, hj, rfl⟩ := in_of hn q
    obtain ⟨a, b, c⟩ := h j hj
    unfold cdV
    rw [if_neg q, if_neg q, iNat_nI (by omega), a, b, c]
theorem cnV_x {f : Nat → Int64} (h : x < 0 ∨ ¬ x < nI n) : 0 = cnV n f x y := by unfold cnV; rw [if_pos (Or.inl h)]
theorem cnV_y {f : Nat → Int64} (h : y < 0 ∨ ¬ y < nI n) : 0 = cnV n f x y := by unfold cnV; rw [if_pos (Or.inr h)]
theorem cnV_in {f : Nat → Int64} {i : Nat} (hj : j < n) (hi : i < n) (hn : n ≤ 60) (e : hasv (f j) i = v) : v = cnV n f (nI j) (nI i) := by
  unfold cnV; rw [if_neg (fun q => q.elim (in_nI hj hn) (in_nI hi hn)), iNat_nI (by omega), iNat_nI (by omega), e]
theorem cnV_eq {f g : Nat → Int64} (hn : n ≤ 60) (h : ∀ j, j < n → f j = g j) : cnV n f x y = cnV n g x y := by
  by_cases q : (x < 0 ∨ ¬ x < nI n) ∨ (y < 0 ∨ ¬ y < nI n)
  · unfold cnV; rw [if_pos q, if_pos q]
  · obtain ⟨j, hj, rfl⟩ := in_of hn (fun r => q (Or.inl r))
    unfold cnV; rw [if_neg q, if_neg q, iNat_nI (by omega), h j hj]
theorem hasv_if {z : Int64} {k : Nat} (h : ¬ hasv z k = 0) : hasv z k = 1 := (hasv_01 z k).resolve_left h
end EVV
section SAME
variable {pfc pfe : Nat} {pfu : Int32} {fpl fmk ftk : Nat → Int32} {fbs fop : Nat → Int64} {ftr : Nat → Int32} {ftn : Nat → Int64} {fca fma : Nat → Int32} {frk : Nat → Int64} {mcd mev : Nat} {gpl gmk gbh : Nat → Int32} {gbs : Nat → Int64} {gtr : Nat → Int32} {gtn : Nat → Int64} {gtk : Nat → Int32} {grk : Nat → Int64} {gma gcu : Nat → Int32} {x y r1 r2 : Int32}
theorem PxE.ne (h : PxE pfc pfe pfu fpl fmk ftk fbs fop ftr ftn fca fma frk mcd mev gpl gmk gbh gbs gtr gtn gtk grk gma gcu) : pfe = mev ∧ pfe ≤ 30 := by
  rcases h with ⟨_, a, _, b⟩ | ⟨N, P, _, _, hc, hm⟩
  · omega
  · have := hc.ne; have := hm.ne; have := hc.e30; omega
theorem PxE.nc (h : PxE pfc pfe pfu fpl fmk ftk fbs fop ftr ftn fca fma frk mcd mev gpl gmk gbh gbs gtr gtn gtk grk gma gcu) : pfc = mcd ∧ pfc ≤ 60 := by
  rcases h with ⟨a, _, b, _⟩ | ⟨N, P, _, _, hc, hm⟩
  · omega
  · have := hc.nc; have := hm.nc; have := hc.c60; omega
theorem concurrent_same (h : PxE pfc pfe pfu fpl fmk ftk fbs fop ftr ftn fca fma frk mcd mev gpl gmk gbh gbs gtr gtn gtk grk gma gcu) (h1 : r1 = cnV pfc fbs x y) (h2 : r2 = cnV mcd gbs x y) : r1 = r2 := by
  obtain ⟨e, e60⟩ := h.nc
  subst e
  rw [h1, h2]
  refine cnV_eq e60 fun j hj => ?_
  rcases h with ⟨a, _⟩ | ⟨N, P, _, _, hc, hm⟩
  · omega
  · exact (hc.bs j hj).ext (hm.bs j hj)
/-- how many take a condition -/
theorem tks_cnt {P : Px} {N : Net8} {c : Nat} (hO : PxOk N P) (h30 : P.ne ≤ 30) {v : Int32} (hv : B32 v (fun a => P.tkP a c)) {gtn : Nat → Int64} (hg : ∀ a, a < P.ne → B64 (gtn a) (fun c => P.tk a c = true)) : pc32 v = cnt P.ne (fun e => decide (¬ hasv (gtn e) c = 0)) := by
  rw [pc32_X hv (fun a q => (hO.tkd a c q).1) (by omega)]
  unfold szX
  refine cnt_congr fun w hw => ?_
  rw [Bool.eq_iff_iff, bP_iff, decide_eq_true_eq]
  exact ⟨fun q r => ((hg w hw).has.mp r) q, fun q => Classical.byContradiction fun r => q ((hg w hw).has.mpr r)⟩
theorem condition_same (h : PxE pfc pfe pfu fpl fmk ftk fbs fop ftr ftn fca fma frk mcd mev gpl gmk gbh gbs gtr gtn gtk grk gma gcu) (h1 : r1 = cdV pfc fpl fmk (fun j => nI (pc32 (ftk j))) x y) (h2 : r2 = cdV mcd gpl gmk (fun j => nI (cnt mev (fun e => decide (¬ hasv (gtn e) j = 0)))) x y) : r1 = r2 := by
  obtain ⟨e, e60⟩ := h.nc
  subst e
  rw [h1, h2]
  refine cdV_eq e60 fun j hj => ?_
  rcases h with ⟨a, _⟩ | ⟨N, P, hO, _, hc, hm⟩
  · omega
  · refine ⟨(hc.pl j hj).1.trans (hm.pl j hj).1.symm, ?_, ?_⟩
    · rcases hc.mak j hj with ⟨a, b⟩ | ⟨a, _, b, d⟩ <;> rcases hm.mak j hj with ⟨a', b'⟩ | ⟨a', _, b', d'⟩
      · rw [a, a']
      · rw [b] at d'; cases d'
      · rw [d] at b'; cases b'
      · rw [d] at d'; cases d'; rw [b, b']
    · show nI _ = nI _
      have e1 := hm.ne
      have e2 := hm.e30
      rw [tks_cnt hO (by omega) (hc.tk j hj) (gtn := gtn) (fun a ha => hm.tn a (by omega)), e1]
theorem rk_hi {n : Nat} (h : n < 2 ^ 60) : Int64.toInt32 (lN n >>> (Int32.toInt64 40 &&& 63)) = nI (n / 2 ^ 40) := by
  apply Int32.toBitVec_inj.mp
  apply BitVec.eq_of_getLsbD_eq
  intro i hi
  have e : (lN n >>> (Int32.toInt64 40 &&& 63)).toBitVec = (lN n).toBitVec.sshiftRight 40 := by
    rw [show (Int32.toInt64 40 &&& 63 : Int64) = 40 from by decide, Int64.toBitVec_shiftRight]
    rfl
  have hm : (lN n).toBitVec.msb = false := by
    rw [BitVec.msb_eq_getLsbD_last, lN_bits (by omega)]
    exact Nat.testBit_lt_two_pow (Nat.lt_of_lt_of_le h (by decide))
  rw [nI_bits (by omega), Nat.testBit_div_two_pow, Int64.toBitVec_toInt32, e, BitVec.getLsbD_signExtend, BitVec.getLsbD_sshiftRight, hm, lN_bits (by omega)]
  by_cases h1 : 40 + i < 64
  · have h2 : ¬ 64 ≤ i := by omega
    have h3 : i + 40 < 64 := by omega
    simp [h2, h3, hi, show i < 64 by omega, Nat.add_comm]
  · have : n.testBit (i + 40) = false := Nat.testBit_lt_two_pow (Nat.lt_of_lt_of_le h (Nat.pow_le_pow_right (by decide) (by omega)))
    simp [h1, hi, show i < 64 by omega, this]
theorem event_same (h : PxE pfc pfe pfu fpl fmk ftk fbs fop ftr ftn fca fma frk mcd mev gpl gmk gbh gbs gtr gtn gtk grk gma gcu) (h1 : r1 = evV pfe ftr (fun j => nI (pc32 (fca j))) fma (fun j => if hasv (Int32.toInt64 pfu) j = 0 then 0 else 1) x y) (h2 : r2 = evV mev gtr (fun j => Int64.toInt32 (grk j >>> (Int32.toInt64 40 &&& 63)) - 1) gma (fun j => if gcu j = 0 then 0 else 1) x y) : r1 = r2 := by
  obtain ⟨e, e30⟩ := h.ne
  subst e
  rw [h1, h2]
  refine evV_eq (by omega) fun j hj => ?_
  rcases h with ⟨_, a, _⟩ | ⟨N, P, hO, hk, hc, hm⟩
  · omega
  · have en := hc.ne
    refine ⟨(hc.tr j hj).1.trans (hm.tr j hj).1.symm, ?_, (hc.ma j hj).ext (hm.ma j hj), ?_⟩
    · have hs := hk j (by omega)
      have hp : pc32 (fca j) = szX (fun f => P.cs j f = true) (j + 1) := pc32_X (hc.ca j hj) (fun f q => by have := hO.cs_le j f q; omega) (by omega)
      have h32 := pc32_le (fca j)
      have hb : P.rk j < 33 * 2 ^ 40 := by
        have := Nat.lt_mul_div_succ (P.rk j) (show 0 < 2 ^ 40 by decide)
        rw [hs, ← hp] at this
        have q : 2 ^ 40 * (pc32 (fca j) + 1) ≤ 2 ^ 40 * 33 := Nat.mul_le_mul_left _ (by omega)
        omega
      show nI (pc32 (fca j)) = Int64.toInt32 (grk j >>> (Int32.toInt64 40 &&& 63)) - 1
      rw [hm.rk j hj, rk_hi (by omega), Nat.add_div_right _ (by decide), hs, ← hp]
      exact (cv_sub (a := pc32 (fca j) + 1) (b := 1) (by omega)).symm
    · show (if hasv (Int32.toInt64 pfu) j = 0 then (0 : Int32) else 1) = if gcu j = 0 then 0 else 1
      have hu := (hc.cu.has (k := j) (fun i q => by omega))
      rw [hm.cu j hj]
      by_cases q : P.ct j = true
      · rw [if_neg (fun r => (hu.mp r) ⟨hj, q⟩), if_pos q, if_neg (by decide)]
      · rw [if_pos (hu.mpr fun r => q r.2), if_neg q, if_pos rfl]
/-- an event's conditions, in the order of their places -/
def TkQ (pfc : Nat) (fop : Nat → Int64) (m : Int64) (L : List Nat) (pl : Nat → Nat) : Prop := B64 m (fun c => c ∈ L) ∧ (L.map pl).Pairwise (· < ·) ∧ (∀ c, c ∈ L → c < pfc ∧ pl c < 8) ∧ L.length ≤ 8 ∧ pfc ≤ 60 ∧ ∀ p, p < 8 → B64 (fop p) (fun c => c < pfc ∧ pl c = p)
theorem PxE.tks (h : PxE pfc pfe pfu fpl fmk ftk fbs fop ftr ftn fca fma frk mcd mev gpl gmk gbh gbs gtr gtn gtk grk gma gcu) : ∃ (LL : Nat → List Nat) (pl : Nat → Nat), ∀ a, a < pfe → TkQ pfc fop (ftn a) (LL a) pl ∧ ∀ k, k < 8 → gtk (8 * a + k) = tkv (LL a) (nI k) := by
  rcases h with ⟨_, a, _⟩ | ⟨N, P, hO, hk, hc, hm⟩
  · exact ⟨fun _ => [], fun _ => 0, fun j hj => by omega⟩
  · have e1 := hc.ne
    have e2 := hm.ne
    have e3 := hc.nc
    have q : ∀ a, ∃ L : List Nat, a < pfe → TkQ pfc fop (ftn a) L P.pl ∧ ∀ k, k < 8 → gtk (8 * a + k) = tkv L (nI k) := fun a => by
      by_cases ha : a < pfe
      · obtain ⟨L, h1, h2, h3, h4⟩ := hm.tks a (by omega)
        have hl : L.length ≤ 8 := by
          have := congrArg List.length h2
          rw [List.length_map] at this
          rw [this]
          exact Nat.le_trans (List.length_filter_le _ _) (by simp)
        refine ⟨L, fun _ => ⟨⟨(hc.tn a ha).congr h1, h2 ▸ plc_sorted _, fun c q => ?_, hl, hc.c60, hc.op⟩, fun k hk => ?_⟩⟩
        · have := (hO.tkd a c ((h1 c).mpr q)).2
          exact ⟨by omega, hO.pl8 c this⟩
        · by_cases hq : k < L.length
          · rw [h3 k hq]
            unfold tkv
            rw [if_neg (in_nI hq (by omega)), iNat_nI (by omega), getD_at hq]
          · rw [h4 k (by omega) hk]
            unfold tkv
            rw [if_pos (Or.inr fun r => hq ((nI_ltI (by omega) (by omega)).mp r))]
      · exact ⟨[], fun r => absurd r ha⟩
    exact ⟨fun a => Classical.choose (q a), P.pl, fun a ha => Classical.choose_spec (q a) ha⟩
theorem takes_same {LL : Nat → List Nat} {pl : Nat → Nat} (hne : pfe = mev ∧ pfe ≤ 30) (hLL : ∀ a, a < pfe → TkQ pfc fop (ftn a) (LL a) pl ∧ ∀ k, k < 8 → gtk (8 * a + k) = tkv (LL a) (nI k)) (h1 : r1 = tkV pfe LL x y) (h2 : r2 = tmV mev gtk x y) : r1 = r2 := by
  obtain ⟨e, e30⟩ := hne
  subst e
  rw [h1, h2]
  unfold tkV tmV
  by_cases q : x < 0 ∨ ¬ x < nI pfe
  · rw [if_pos q, if_pos q]
  · obtain ⟨j, hj, rfl⟩ := in_of (by omega) q
    obtain ⟨⟨_, _, _, hl, _, _⟩, hg⟩ := hLL j hj
    rw [if_neg q, if_neg q, iNat_nI (by omega)]
    by_cases r : y < 0 ∨ ¬ y < nI 8
    · rw [if_pos r]
      unfold tkv
      rw [if_pos]
      rcases r with r | r
      · exact Or.inl r
      · by_cases h0 : y < 0
        · exact Or.inl h0
        · refine Or.inr fun z => r ?_
          obtain ⟨k, hk, rfl⟩ := ix_of (by omega) h0 z
          exact (nI_ltI (by omega) (by omega)).mpr (by omega)
    · obtain ⟨k, hk, rfl⟩ := in_of (by omega) r
      rw [if_neg r, iNat_nI (by omega), hg k hk]
theorem tmV_x {n : Nat} {g : Nat → Int32} (h : x < 0 ∨ ¬ x < nI n) : -1 = tmV n g x y := by unfold tmV; rw [if_pos h]
theorem tmV_y {n : Nat} {g : Nat → Int32} (h : y < 0 ∨ 7 < y) : -1 = tmV n g x y := by
  have h : y < 0 ∨ ¬ y < nI 8 := h.imp id fun q r => by
    by_cases h0 : y < 0
    · exact absurd q (fun z => by have := Int32.lt_trans z h0; exact absurd this (by decide))
    · obtain ⟨k, hk, rfl⟩ := ix_of (n := 8) (by omega) h0 r
      have := (nI_ltI (a := 7) (b := k) (by omega) (by omega)).mp q
      omega
  by_cases q : x < 0 ∨ ¬ x < nI n
  · unfold tmV; rw [if_pos q]
  · unfold tmV; rw [if_neg q, if_pos h]
theorem tmV_in {n j k : Nat} {g : Nat → Int32} (hj : j < n) (hn : n ≤ 60) (hk : k ≤ 7) : g (8 * j + k) = tmV n g (nI j) (nI k) := by
  unfold tmV; rw [if_neg (in_nI hj hn), if_neg (in_nI (n := 8) (by omega) (by omega)), iNat_nI (by omega), iNat_nI (by omega)]
theorem tkV_x {n : Nat} {LL : Nat → List Nat} (h : x < 0 ∨ ¬ x < nI n) : -1 = tkV n LL x y := by unfold tkV; rw [if_pos h]
theorem tkV_in {n j : Nat} {LL : Nat → List Nat} {v : Int32} (hj : j < n) (hn : n ≤ 60) (e : v = tkv (LL j) y) : v = tkV n LL (nI j) y := by
  unfold tkV; rw [if_neg (in_nI hj hn), iNat_nI (by omega), e]
end SAME
section TKP
def TkP (L : List Nat) (pl : Nat → Nat) (i v : Nat) : Prop := v ≤ L.length ∧ ∀ q, q < L.length → (pl (L.getD q 0) < i ↔ q < v)
variable {L : List Nat} {pl : Nat → Nat} {i v pfc : Nat} {m : Int64} {fop : Nat → Int64} {y : Int32}
theorem TkP.zero : TkP L pl 0 0 := ⟨Nat.zero_le _, fun q _ => ⟨fun h => absurd h (Nat.not_lt_zero _), fun h => absurd h (Nat.not_lt_zero _)⟩⟩
theorem getD_mem {q : Nat} (h : q < L.length) : L.getD q 0 ∈ L := by rw [getD_at h]; exact List.getElem_mem h
theorem mem_getD {c : Nat} (h : c ∈ L) : ∃ q, q < L.length ∧ L.getD q 0 = c := by
  obtain ⟨q, hq, e⟩ := List.getElem_of_mem h
  exact ⟨q, hq, by rw [getD_at hq]; exact e⟩
theorem TkQ.mono (h : TkQ pfc fop m L pl) {a b : Nat} (hab : a < b) (hb : b < L.length) : pl (L.getD a 0) < pl (L.getD b 0) := by
  have := (List.pairwise_iff_getElem.mp h.2.1) a b (by rw [List.length_map]; omega) (by rw [List.length_map]; omega) hab
  rw [List.getElem_map, List.getElem_map] at this
  rw [getD_at (by omega), getD_at hb]
  exact this
theorem TkQ.here (h : TkQ pfc fop m L pl) (hi : i < 8) : B64 (m &&& fop i) (fun c => c ∈ L ∧ c < pfc ∧ pl c = i) := h.1.and (h.2.2.2.2.2 i hi)
theorem TkP.skip (hQ : TkQ pfc fop m L pl) (h : TkP L pl i v) (hi : i < 8) (h0 : m &&& fop i = 0) : TkP L pl (i + 1) v := ⟨h.1, fun q hq => by
  have hm := getD_mem hq
  have := (hQ.here hi).nz.mp h0 (L.getD q 0)
  have hne : pl (L.getD q 0) ≠ i := fun e => this ⟨hm, (hQ.2.2.1 _ hm).1, e⟩
  have := h.2 q hq
  constructor
  · exact fun z => this.mp (by omega)
  · exact fun z => by have := this.mpr z; omega⟩
theorem TkQ.at_v (hQ : TkQ pfc fop m L pl) (h : TkP L pl i v) {q : Nat} (hq : q < L.length) (e : pl (L.getD q 0) = i) : q = v := by
  have h1 := h.2 q hq
  have h2 : ¬ q < v := fun z => by have := h1.mpr z; omega
  rcases Nat.lt_or_ge v q with z | z
  · have := hQ.mono z hq
    have := (h.2 v (by omega)).mp (by omega)
    omega
  · omega
theorem TkQ.one (hQ : TkQ pfc fop m L pl) (h : TkP L pl i v) (hi : i < 8) (hne : ¬ m &&& fop i = 0) : v < L.length ∧ pl (L.getD v 0) = i ∧ L.getD v 0 < 60 ∧ B64 (m &&& fop i) (fun c => c = L.getD v 0) := by
  have hB := hQ.here hi
  have : ∃ c, c ∈ L ∧ c < pfc ∧ pl c = i := Classical.byContradiction fun q => hne (hB.nz.mpr fun c r => q ⟨c, r⟩)
  obtain ⟨c, hc, hc2, e⟩ := this
  obtain ⟨q, hq, rfl⟩ := mem_getD hc
  have := hQ.at_v h hq e
  subst this
  have h60 := hQ.2.2.2.2.1
  refine ⟨hq, e, by omega, hB.congr fun d => ⟨fun r => ?_, fun r => ?_⟩⟩
  · obtain ⟨q2, hq2, e2⟩ := mem_getD r.1
    have := hQ.at_v h hq2 (by rw [e2]; exact r.2.2)
    rw [← e2, this]
  · subst r; exact ⟨hc, hc2, e⟩
theorem TkP.put (hQ : TkQ pfc fop m L pl) (h : TkP L pl i v) (hv : v < L.length) (e : pl (L.getD v 0) = i) : TkP L pl (i + 1) (v + 1) := ⟨hv, fun q hq => by
  have h1 := h.2 q hq
  constructor
  · intro z
    by_cases r : pl (L.getD q 0) = i
    · have := hQ.at_v h hq r; omega
    · have := h1.mp (by omega); omega
  · intro z
    by_cases r : q = v
    · rw [r, e]; omega
    · have := h1.mpr (by omega); omega⟩
theorem TkP.end (hQ : TkQ pfc fop m L pl) (h : TkP L pl i v) (hi : 8 ≤ i) (hy : ∀ q, q < v → ¬ y = nI q) : -1 = tkv L y := by
  have hl := hQ.2.2.2.1
  by_cases r : y < 0 ∨ ¬ y < nI L.length
  · unfold tkv; rw [if_pos r]
  · obtain ⟨j, hj, rfl⟩ := in_of (by omega) r
    have := (hQ.2.2.1 _ (getD_mem hj)).2
    exact absurd rfl (hy j ((h.2 j hj).mp (by omega)))
theorem tkv_in (hQ : TkQ pfc fop m L pl) (hv : v < L.length) : nI (L.getD v 0) = tkv L (nI v) := by
  have hl := hQ.2.2.2.1
  unfold tkv; rw [if_neg (in_nI hv (by omega)), iNat_nI (by omega)]
theorem hy_s {y : Int32} (hy : ∀ q, q < v → ¬ y = nI q) (h : ¬ nI v = y) : ∀ q, q < v + 1 → ¬ y = nI q := fun q hq e => by
  by_cases r : q = v
  · subst r; exact h e.symm
  · exact hy q (by omega) e
theorem least_b : ∀ c, c < 60 → pcount ((((1 : Int64) <<< (Int32.toInt64 (nI c) &&& 63)) &&& -((1 : Int64) <<< (Int32.toInt64 (nI c) &&& 63))) - 1) = c := by decide +kernel
theorem least_one {x : Int64} {c : Nat} (h : B64 x (fun q => q = c)) (hc : c < 60) : pcount ((x &&& -x) - 1) = c := by
  rw [h.ext (B64.bit (k := c) (by omega))]
  exact least_b c hc
end TKP
