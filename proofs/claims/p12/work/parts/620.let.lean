/-! One round of the unfolding, put together. -/
theorem nq_B {v : Int32} {n : Nat} {f : Nat → Bool} (hn : n < 256) (hv : v = nI n) (h : ∀ p, p < 8 → f p = n.testBit p) : B32 v (fun p => p < 8 ∧ f p = true) := by
  rw [hv]
  refine (B32.ofNat (n := n) (by omega)).congr fun p => ?_
  constructor
  · intro q
    have : p < 8 := by
      rcases Nat.lt_or_ge p 8 with r | r
      · exact r
      · have : n.testBit p = false := Nat.testBit_lt_two_pow (Nat.lt_of_lt_of_le hn (Nat.pow_le_pow_right (n := 2) (by decide) r))
        rw [this] at q; cases q
    exact ⟨this, by rw [h p this]; exact q⟩
  · rintro ⟨q1, q2⟩
    rw [← h p q1]; exact q2
theorem pc32_nI : ∀ n, n < 256 → pc32 (nI n) = bC n 8 := by decide +kernel
section LETC
variable {N : Net8} {P : Px} {x : Ent}
theorem succ_nc_cut (hk : P.cutB N x = true) : (P.succ N x).nc = P.nc := by
  show P.nc + (if P.cutB N x = true then 0 else _) = _; rw [if_pos hk]; rfl
theorem succ_nc {n : Nat} (hk : P.cutB N x = false) (hn : n < 256) (hpo : plc (N.po x.1) = psN n) : (P.succ N x).nc = P.nc + bC n 8 := by
  show P.nc + (if P.cutB N x = true then 0 else (plc (N.po x.1)).length) = _
  rw [hk, hpo, psN_len n hn]; rfl
theorem FPL_none {pr : Nat → Nat → Bool} {pl : Nat → Nat} {co : Nat → Nat → Bool} {nc i : Nat} {op fr : Nat → Bool} (h : ∀ c, fr c = false) : FPL pr pl co nc op fr i = [] := by
  unfold FPL
  apply List.flatMap_eq_nil_iff.mpr
  intro t _
  exact NW_none fun L _ c _ => h c
theorem old_dom (hp : ∀ z, z ∈ P.poss N → EntI P.pl (fun t => plc (N.pr t)) P.nc z) {el m : List Ent} (hel : el.Perm (P.poss N)) (hm : el.Perm (x :: m)) : ∀ z ∈ m, ∀ c ∈ z.2, c < P.nc := fun z hz c hc =>
  (hp z (hel.mem_iff.mp (hm.mem_iff.mpr (List.mem_cons_of_mem _ hz)))).2.2.2 c hc
theorem let_cut (hN : NetOk N) (hO : PxOk N P) (hx : x ∈ P.poss N) {el m : List Ent} (hel : el.Perm (P.poss N)) (hm : el.Perm (x :: m)) (hk : P.cutB N x = true) {oz : Nat} {otr : Nat → Int32} {otn ork : Nat → Int64} (h : PoR m oz otr otn ork P.rkv) :
    ∃ l1, l1.Perm ((P.succ N x).poss N) ∧ PoR l1 oz otr otn ork (P.succ N x).rkv := by
  have e := succ_nc_cut hk
  have hp := succ_perm hN hO hx hel hm (P.fromB x.2) (fun _ _ => rfl)
  rw [FPL_none (fun c => by simp [freshB, e]), List.append_nil] at hp
  exact ⟨m, hp, h.rk_congr fun z hz => (rkv_ext hO (old_dom (fun z hz => poss_ent hz) hel hm z hz)).symm⟩
theorem from_X {L : List Nat} {pfc n1 : Nat} (hc : pfc = P.nc) (hL : ∀ z ∈ L, z < P.nc) : ∀ c, c < n1 → (((c < pfc ∧ ∀ z, z < pfc → (z ∈ L → (c < pfc ∧ P.co z c = true))) ∨ (pfc ≤ c ∧ c < n1)) ↔ P.fromB L c = true) := fun c hc1 => by
  unfold Px.fromB
  simp only [decide_eq_true_eq]
  constructor
  · rintro (⟨-, q⟩ | q)
    · exact Or.inr fun z hz => (P.co_iff z c).mp (q z (by have := hL z hz; omega) hz).2
    · exact Or.inl (by omega)
  · intro q
    by_cases h : c < pfc
    · refine Or.inl ⟨h, fun z _ hz => ⟨h, (P.co_iff z c).mpr ?_⟩⟩
      rcases q with q | q
      · omega
      · exact q z hz
    · exact Or.inr ⟨by omega, hc1⟩
end LETC
section RW
variable {N : Net8} {P : Px} {pfc pfe : Nat} {pfu : Int32} {fpl fmk ftk : Nat → Int32} {fbs fop : Nat → Int64} {ftr : Nat → Int32} {ftn : Nat → Int64} {fca fma : Nat → Int32} {frk : Nat → Int64}
theorem RepC.rkr (h : RepC P pfc pfe pfu fpl fmk ftk fbs fop ftr ftn fca fma frk) (hO : PxOk N P) : ∀ k L, P.rkv (k, L) = keyX (fun f => ∃ c, c < pfc ∧ (c ∈ L ∧ P.bh c f)) P.tr k pfe (szX (fun f => ∃ c, c < pfc ∧ (c ∈ L ∧ P.bh c f)) pfe + 1) 8 := fun k L => by
  rw [h.ne]
  exact rkv_X k L (fun f => by rw [h.nc]; exact beh_X hO L f)
theorem MakI.alln {mo : Nat → Option Nat} (h : MakI pfc fmk mo) : AllN fmk pfc 30 := fun c hc => (h c hc).imp (fun q => q.1) (fun ⟨a, q1, q2, _⟩ => ⟨a, q1, q2⟩)
theorem PlaI.alllt {pl : Nat → Nat} (h : PlaI pfc fpl pl) : AllLt fpl pfc 8 := fun c hc => ⟨pl c, (h c hc).2, (h c hc).1⟩
theorem TraI.alllt {tr : Nat → Nat} (h : TraI pfe ftr tr) : AllLt ftr pfe 8 := fun c hc => ⟨tr c, (h c hc).2, (h c hc).1⟩
end RW
theorem lc_perm {N : Net8} {P : Px} {x : Ent} {el m : List Ent} {pfc n1 nz : Nat} (hN : NetOk N) (hO : PxOk N P) (hx : x ∈ P.poss N) (hel : el.Perm (P.poss N)) (hm : el.Perm (x :: m)) (h1 : (P.succ N x).nc = n1) (hc : pfc = P.nc) (hz : nz = N.nz) :
    (m ++ FPL N.pr (P.succ N x).pl (P.succ N x).co n1 (P.fromB x.2) (freshB pfc n1) nz).Perm ((P.succ N x).poss N) := by
  subst h1; subst hc; subst hz
  exact succ_perm hN hO hx hel hm (P.fromB x.2) (fun _ _ => rfl)
