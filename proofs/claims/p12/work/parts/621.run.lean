/-! The beginning, and the rounds. -/
theorem rep_zero {N : Net8} {n pfc1 : Nat} {fpl fpl1 fmk fmk1 ftk ftk1 : Nat → Int32} {fbs1 fop1 : Nat → Int64} {ftr : Nat → Int32} {ftn : Nat → Int64} {fca fma : Nat → Int32} {frk : Nat → Int64} (hn : n < 256) (hpo : plc N.fi = psN n) (hc1 : pfc1 = 0 + bC n 8) (hPl : PlA fpl fpl1 0 n 8) (hMk : CoA fmk fmk1 (-1) 0 n 8) (hTk : CoA ftk ftk1 0 0 n 8) (hOp : OpA fop1 (fun _ _ => False) 0 n 8) (hBs : BsA fbs1 0 pfc1 (fun _ => False) (fun _ _ => False) pfc1) :
    RepC (px0 (plc N.fi)) pfc1 0 0 fpl1 fmk1 ftk1 fbs1 fop1 ftr ftn fca fma frk := by
  have plen : (psN n).length = bC n 8 := psN_len n hn
  have hb8 := bC_i n 8
  have hmem : ∀ j, j < bC n 8 → (psN n).getD j 0 ∈ psN n := fun j hj => by
    rw [List.getD_eq_getElem?_getD, List.getElem?_eq_getElem (by omega)]
    exact List.getElem_mem _
  have tg : ∀ c d, (px0 (plc N.fi)).tog c d := fun c d => And.intro (fun f g y hf => by
    rcases hf with ⟨a, q, _⟩ | ⟨a, q, _⟩ <;> cases q) (fun f hf => by
    rcases hf with ⟨a, q, _⟩ | ⟨a, q, _⟩ <;> cases q)
  refine ⟨by show pfc1 = (plc N.fi).length; rw [hpo]; omega, rfl, by omega, by omega, ?_, ?_, ?_, ?_, ?_, ?_, ?_, ?_, ?_, ?_, ?_⟩
  · intro c hc
    have := hPl.2 c (by omega)
    rw [Nat.zero_add] at this
    show fpl1 c = nI ((plc N.fi).getD c 0) ∧ (plc N.fi).getD c 0 < 8
    rw [hpo]
    exact ⟨this, List.mem_range.mp (List.mem_filter.mp (hmem c (by omega))).1⟩
  · intro c hc
    have := hMk.2 c (by omega)
    rw [Nat.zero_add] at this
    exact Or.inl ⟨this, rfl⟩
  · intro c hc
    have := hTk.2 c (by omega)
    rw [Nat.zero_add] at this
    show B32 (ftk1 c) (fun a => (px0 (plc N.fi)).tkP a c)
    rw [this]
    exact B32.zero.congr fun a => ⟨False.elim, fun q => by cases q⟩
  · intro c hc
    refine (hBs.1 c hc).congr fun d => ?_
    show ((c < 0 ∧ (False ∨ (False ∧ 0 ≤ d ∧ d < pfc1))) ∨ (0 ≤ c ∧ (False ∨ (0 ≤ d ∧ d < pfc1)) ∧ d ≠ c)) ↔ (d < pfc1 ∧ (px0 (plc N.fi)).co c d = true)
    rw [Px.co_iff]
    constructor
    · rintro (q | ⟨-, q1 | q1, q2⟩)
      · omega
      · exact q1.elim
      · exact ⟨q1.2, fun e => q2 e.symm, tg c d⟩
    · rintro ⟨q1, q2, -⟩
      exact Or.inr ⟨by omega, Or.inr ⟨by omega, q1⟩, fun e => q2 e.symm⟩
  · intro p hp
    refine (hOp p hp).congr fun c => ?_
    show (False ∨ (p < 8 ∧ n.testBit p = true ∧ c = 0 + bC n p)) ↔ (c < pfc1 ∧ (plc N.fi).getD c 0 = p)
    rw [hpo]
    constructor
    · rintro (q | ⟨-, q2, q3⟩)
      · exact q.elim
      · have hb := bC_mono n (i := p + 1) (k := 8) (by omega)
        rw [bC_s, bN_1 q2] at hb
        rw [Nat.zero_add] at q3
        exact ⟨by omega, by rw [q3]; exact psN_get n hn p hp q2⟩
    · rintro ⟨q1, q2⟩
      have hm' := hmem c (by omega)
      rw [q2] at hm'
      have hb : n.testBit p = true := (List.mem_filter.mp hm').2
      refine Or.inr ⟨hp, hb, ?_⟩
      have hbp := bC_mono n (i := p + 1) (k := 8) (by omega)
      rw [bC_s, bN_1 hb] at hbp
      have g1 := psN_get n hn p hp hb
      have nd : (psN n).Nodup := List.nodup_range.filter _
      rw [List.getD_eq_getElem?_getD, List.getElem?_eq_getElem (by omega)] at g1 q2
      have e : (psN n)[c]'(by omega) = (psN n)[bC n p]'(by omega) := by
        have e1 : (psN n)[c]'(by omega) = p := by simpa using q2
        have e2 : (psN n)[bC n p]'(by omega) = p := by simpa using g1
        rw [e1, e2]
      have := (List.getElem_inj nd).mp e
      omega
  · exact fun a ha => absurd ha (Nat.not_lt_zero a)
  · exact fun a ha => absurd ha (Nat.not_lt_zero a)
  · exact fun a ha => absurd ha (Nat.not_lt_zero a)
  · exact fun a ha => absurd ha (Nat.not_lt_zero a)
  · exact fun a ha => absurd ha (Nat.not_lt_zero a)
  · exact B32.zero.congr fun a => ⟨False.elim, fun q => absurd q.1 (Nat.not_lt_zero a)⟩
theorem PoR.many {l : List Ent} {oz : Nat} {otr : Nat → Int32} {otn ork : Nat → Int64} {rk : Ent → Nat} (h : PoR l oz otr otn ork rk) (hz : 200 < oz) : 200 < l.length := by
  rcases h with ⟨h1, h2, -⟩ | ⟨h1, -⟩
  · omega
  · exact h1
theorem riv_iff {N : Net8} {P : Px} {x : Ent} {pfc : Nat} (hc : pfc = P.nc) (hL : ∀ z ∈ x.2, z < P.nc) : (∃ d, d < pfc ∧ (∀ c, c < pfc → (c ∈ x.2 → (d < pfc ∧ P.co c d = true))) ∧ N.po x.1 (P.pl d) = true) ↔ P.rival N x := by
  constructor
  · rintro ⟨d, h1, h2, h3⟩
    exact ⟨d, by omega, fun z hz => (P.co_iff z d).mp (h2 z (by have := hL z hz; omega) hz).2, h3⟩
  · rintro ⟨d, h1, h2, h3⟩
    exact ⟨d, by omega, fun c _ hcx => ⟨by omega, (P.co_iff c d).mpr (h2 c hcx)⟩, h3⟩
theorem succ_rk_lt {N : Net8} {P : Px} {x : Ent} {pfe : Nat} (he : pfe = P.ne) (h30 : P.ne ≤ 30) (h : ∀ a, a < pfe → P.rk a < 2 ^ 46) : ∀ a, a < pfe + 1 → (P.succ N x).rk a < 2 ^ 46 := fun a ha => by
  show (if a < P.ne then P.rk a else P.rkv x) < _
  split
  · exact h a (by omega)
  · exact rkv_lt h30 x
theorem nI_ofInt (n : Nat) : nI n = Int32.ofInt (n : Int) := rfl
theorem perm_nil {l m : List Ent} (h : l.Perm m) (h0 : l.length = 0) : m = [] := by
  have : l = [] := List.eq_nil_of_length_eq_zero h0
  subst this
  exact h.nil_eq.symm
theorem bg_perm {N : Net8} {n1 nz : Nat} (hN : NetOk N) (h1 : (px0 (plc N.fi)).nc = n1) (hz : nz = N.nz) : ([] ++ FPL N.pr (px0 (plc N.fi)).pl (px0 (plc N.fi)).co n1 (fun _ => true) (fun c => decide (0 ≤ c ∧ c < n1)) nz).Perm ((px0 (plc N.fi)).poss N) := by
  subst h1; subst hz
  rw [List.nil_append, zero_perm hN (fun _ => true) _ (fun _ _ => rfl) (fun c hc => by simpa using hc)]
theorem room_unf {N : Net8} {P : Px} {x : Ent} (h1 : (P.poss N).length ≤ 200) (hb : P.best N x) (hr : ¬ P.rival N x) (h : P.ne = 30 ∨ 60 < (P.succ N x).nc) : Unf N P (-3) P := by
  by_cases e : P.ne = 30
  · exact Unf.full h1 hb hr e
  · exact Unf.big h1 hb hr e (h.resolve_left e)
