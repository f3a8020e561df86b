/-! The reference's rows. -/
def CfI (n : Nat) (S : Nat → Prop) (tk : Nat → Nat → Prop) : Prop := ∀ f g y, f < n → g < n → S f → S g → tk f y → tk g y → f = g
section TKB
variable {S : Nat → Prop} {tk : Nat → Nat → Prop} {i n : Nat}
theorem CfI.zero : CfI 0 S tk := fun f g y hf => absurd hf (Nat.not_lt_zero f)
theorem CfI.skip (h : CfI i S tk) (hS : ¬ S i) : CfI (i + 1) S tk := fun f g y hf hg hSf hSg => h f g y (by have : f ≠ i := fun e => hS (e ▸ hSf); omega) (by have : g ≠ i := fun e => hS (e ▸ hSg); omega) hSf hSg
theorem CfI.put (h : CfI i S tk) (hno : ∀ y, ¬ ((∃ f, f < i ∧ (S f ∧ tk f y)) ∧ tk i y)) : CfI (i + 1) S tk := fun f g y hf hg hSf hSg hfy hgy => by
  by_cases ef : f = i <;> by_cases eg : g = i
  · omega
  · subst ef; exact absurd ⟨⟨g, by omega, hSg, hgy⟩, hfy⟩ (hno y)
  · subst eg; exact absurd ⟨⟨f, by omega, hSf, hfy⟩, hgy⟩ (hno y)
  · exact h f g y (by omega) (by omega) hSf hSg hfy hgy
theorem CfI.not {y : Nat} (hi : i < n) (hS : S i) (h : (∃ f, f < i ∧ (S f ∧ tk f y)) ∧ tk i y) : ¬ CfI n S tk := fun q => by
  obtain ⟨⟨f, hf, hSf, hfy⟩, hiy⟩ := h
  have := q f i y (by omega) hi hSf hS hfy hiy
  omega
theorem CfI.end (h : CfI i S tk) (e : i = n) : CfI n S tk := e ▸ h
end TKB
/-- what takenBy answers -/
def TkB (r : Int64) (n : Nat) (S : Nat → Prop) (tk : Nat → Nat → Prop) : Prop := (r = -1 ∧ ¬ CfI n S tk) ∨ (CfI n S tk ∧ B64 r (fun y => ∃ f, f < n ∧ (S f ∧ tk f y)))
theorem TkB.neg {r : Int64} {n : Nat} {S : Nat → Prop} {tk : Nat → Nat → Prop} (h : TkB r n S tk) (h60 : ∀ f y, tk f y → y < 60) : r < 0 ↔ ¬ CfI n S tk := by
  rcases h with ⟨rfl, h⟩ | ⟨h1, h2⟩
  · exact ⟨fun _ => h, fun _ => by decide⟩
  · refine ⟨fun q => ?_, fun q => absurd h1 q⟩
    exfalso
    have hb : r.toBitVec.getLsbD 63 = false := by
      cases e : r.toBitVec.getLsbD 63 with
      | false => rfl
      | true =>
        obtain ⟨f, -, -, hy⟩ := (h2 63).mp e
        have := h60 f 63 hy; omega
    have hm : r.toBitVec.msb = false := by rw [BitVec.msb_eq_getLsbD_last]; exact hb
    have h0 : 0 ≤ r.toInt := by
      show 0 ≤ r.toBitVec.toInt
      rw [BitVec.toInt_eq_msb_cond, hm]
      simp
    rw [Int64.lt_iff_toInt_lt] at q
    have : (0 : Int64).toInt = 0 := by decide
    omega
/-- conditions that stand together, told by words -/
theorem tog_B {bh tk : Nat → Nat → Prop} {n c d : Nat} (hb : ∀ z f, bh z f → f < n) : Tog bh tk c d ↔ (CfI n (fun f => bh c f ∨ bh d f) tk ∧ ¬ (∃ f, f < n ∧ ((bh c f ∨ bh d f) ∧ tk f c)) ∧ ¬ ∃ f, f < n ∧ ((bh c f ∨ bh d f) ∧ tk f d)) := by
  constructor
  · rintro ⟨h1, h2⟩
    exact ⟨fun f g y _ _ hf hg => h1 f g y hf hg, fun ⟨f, _, hf, q⟩ => (h2 f hf).1 q, fun ⟨f, _, hf, q⟩ => (h2 f hf).2 q⟩
  · rintro ⟨h1, h2, h3⟩
    have hl : ∀ f, (bh c f ∨ bh d f) → f < n := fun f hf => hf.elim (hb c f) (hb d f)
    exact ⟨fun f g y hf hg => h1 f g y (hl f hf) (hl g hg) hf hg, fun f hf => ⟨fun q => h2 ⟨f, hl f hf, hf, q⟩, fun q => h3 ⟨f, hl f hf, hf, q⟩⟩⟩
/-- the rows of what is beside what, while one condition is added -/
def BsM (g : Nat → Int64) (n : Nat) (co : Nat → Nat → Prop) (j : Nat) : Prop := (∀ c, c < n → B64 (g c) (fun d => (d < n ∧ co c d) ∨ (d = n ∧ c < j ∧ co c n))) ∧ B64 (g n) (fun d => d < j ∧ co n d)
section BSM
variable {f : Nat → Int64} {n j : Nat} {co : Nat → Nat → Prop}
theorem BsM.zero (h : ∀ c, c < n → B64 (f c) (fun d => d < n ∧ co c d)) : BsM (vp_updL f n 0) n co 0 := by
  refine ⟨fun c hc => ?_, ?_⟩
  · rw [updL_ne (by omega)]
    exact (h c hc).congr fun d => ⟨Or.inl, fun q => q.elim id (fun r => absurd r.2.1 (Nat.not_lt_zero c))⟩
  · rw [updL_at]
    exact B64.zero.congr fun d => ⟨False.elim, fun q => absurd q.1 (Nat.not_lt_zero d)⟩
theorem BsM.skip (h : BsM f n co j) (hj : j < n) (h1 : ¬ co n j) (h2 : ¬ co j n) : BsM f n co (j + 1) := by
  refine ⟨fun c hc => (h.1 c hc).congr fun d => ?_, h.2.congr fun d => ?_⟩
  · refine or_congr Iff.rfl (and_congr_right fun _ => ?_)
    constructor
    · exact fun q => ⟨by omega, q.2⟩
    · refine fun q => ⟨?_, q.2⟩
      have : c ≠ j := fun e => h2 (e ▸ q.2)
      omega
  · constructor
    · exact fun q => ⟨by omega, q.2⟩
    · refine fun q => ⟨?_, q.2⟩
      have : d ≠ j := fun e => h1 (e ▸ q.2)
      omega
theorem BsM.put (h : BsM f n co j) (hj : j < n) (hn : n < 60) (h1 : co n j) (h2 : co j n) : BsM (vp_updL (vp_updL f n (f n ||| (1 <<< (Int32.toInt64 (nI j) &&& 63)))) j ((vp_updL f n (f n ||| (1 <<< (Int32.toInt64 (nI j) &&& 63)))) j ||| (1 <<< (Int32.toInt64 (nI n) &&& 63)))) n co (j + 1) := by
  refine ⟨fun c hc => ?_, ?_⟩
  · by_cases e : c = j
    · subst e
      rw [updL_at, updL_ne (by omega)]
      refine ((h.1 c hc).or (B64.bit (by omega))).congr fun d => ?_
      constructor
      · rintro ((q | q) | q)
        · exact Or.inl q
        · omega
        · exact Or.inr ⟨q, by omega, h2⟩
      · rintro (q | q)
        · exact Or.inl (Or.inl q)
        · exact Or.inr q.1
    · rw [updL_ne e, updL_ne (by omega)]
      refine (h.1 c hc).congr fun d => or_congr Iff.rfl (and_congr_right fun _ => ?_)
      exact ⟨fun q => ⟨by omega, q.2⟩, fun q => ⟨by omega, q.2⟩⟩
  · rw [updL_ne (by omega), updL_at]
    refine (h.2.or (B64.bit (by omega))).congr fun d => ?_
    constructor
    · rintro (q | q)
      · exact ⟨by omega, q.2⟩
      · exact ⟨by omega, q ▸ h1⟩
    · rintro ⟨q1, q2⟩
      by_cases e : d = j
      · exact Or.inr e
      · exact Or.inl ⟨by omega, q2⟩
theorem BsM.done (h : BsM f n co n) (hi : ¬ co n n) : ∀ c, c < n + 1 → B64 (f c) (fun d => d < n + 1 ∧ co c d) := fun c hc => by
  by_cases e : c = n
  · subst e
    refine h.2.congr fun d => ?_
    constructor
    · exact fun q => ⟨by omega, q.2⟩
    · refine fun q => ⟨?_, q.2⟩
      have : d ≠ c := fun z => hi (z ▸ q.2)
      omega
  · refine (h.1 c (by omega)).congr fun d => ?_
    constructor
    · rintro (q | q)
      · exact ⟨by omega, q.2⟩
      · exact ⟨by omega, q.1 ▸ q.2.2⟩
    · rintro ⟨q1, q2⟩
      by_cases z : d = n
      · exact Or.inr ⟨z, by omega, z ▸ q2⟩
      · exact Or.inl ⟨by omega, q2⟩
end BSM
theorem tkb_c {S : Nat → Prop} {tk : Nat → Nat → Prop} {i n : Nat} (hi : i < n) (hS : S i) (h : ¬ ∀ y, ¬ ((∃ f, f < i ∧ (S f ∧ tk f y)) ∧ tk i y)) : ¬ CfI n S tk := fun q => h fun y r => CfI.not hi hS r q
