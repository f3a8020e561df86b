/-! Rows that an event or conditions are added to. -/
section TKE
variable {ftk g : Nat → Int32} {X : Nat → Prop} {i n a : Nat}
/-- the event a is written beside what it takes, up to i -/
def TkE (ftk g : Nat → Int32) (X : Nat → Prop) (a i n : Nat) : Prop := (∀ c, c < i → ∀ T, B32 (ftk c) T → B32 (g c) (fun f => T f ∨ (f = a ∧ X c))) ∧ ∀ c, i ≤ c → g c = ftk c
theorem TkE.zero : TkE ftk ftk X a 0 n := ⟨fun c hc => absurd hc (Nat.not_lt_zero c), fun c _ => rfl⟩
theorem TkE.skip (h : TkE ftk g X a i n) (hX : ¬ X i) : TkE ftk g X a (i + 1) n := by
  refine ⟨fun c hc T hT => ?_, fun c hc => h.2 c (by omega)⟩
  by_cases e : c = i
  · subst e
    rw [h.2 c (Nat.le_refl _)]
    exact hT.congr fun f => ⟨Or.inl, fun q => q.elim id (fun r => absurd r.2 hX)⟩
  · exact h.1 c (by omega) T hT
theorem TkE.put (h : TkE ftk g X a i n) (hX : X i) (ha : a < 31) : TkE ftk (upd g i (g i ||| (1 <<< (nI a &&& 31)))) X a (i + 1) n := by
  refine ⟨fun c hc T hT => ?_, fun c hc => (upd_ne (by omega)).trans (h.2 c (by omega))⟩
  by_cases e : c = i
  · subst e
    rw [upd_at, h.2 c (Nat.le_refl _)]
    exact (hT.or (B32.bit ha)).congr fun f => ⟨fun q => q.imp id (fun r => ⟨r, hX⟩), fun q => q.imp id (fun r => r.1)⟩
  · rw [upd_ne e]
    exact h.1 c (by omega) T hT
end TKE
def psN (n : Nat) : List Nat := (List.range 8).filter (fun p => n.testBit p)
theorem psN_get : ∀ n, n < 256 → ∀ i, i < 8 → n.testBit i = true → (psN n).getD (bC n i) 0 = i := by decide +kernel
theorem psN_len : ∀ n, n < 256 → (psN n).length = bC n 8 := by decide +kernel
theorem bN_1 {n i : Nat} (h : n.testBit i = true) : bN n i = 1 := by unfold bN; rw [if_pos h]
theorem bN_0 {n i : Nat} (h : ¬ n.testBit i = true) : bN n i = 0 := by unfold bN; rw [if_neg h]
section ADC
variable {fpl g : Nat → Int32} {i n m c2 : Nat}
/-- the places of the new conditions -/
def PlA (fpl g : Nat → Int32) (n m i : Nat) : Prop := (∀ c, c < n → g c = fpl c) ∧ ∀ j, j < bC m i → g (n + j) = nI ((psN m).getD j 0)
theorem PlA.zero : PlA fpl fpl n m 0 := ⟨fun _ _ => rfl, fun j hj => absurd hj (Nat.not_lt_zero j)⟩
theorem PlA.skip (h : PlA fpl g n m i) (hb : ¬ m.testBit i = true) : PlA fpl g n m (i + 1) := ⟨h.1, fun j hj => h.2 j (by rw [bC_s, bN_0 hb] at hj; exact hj)⟩
theorem PlA.put (h : PlA fpl g n m i) (hm : m < 256) (hi : i < 8) (hb : m.testBit i = true) (hc : c2 = n + bC m i) : PlA fpl (upd g c2 (nI i)) n m (i + 1) := by
  subst hc
  refine ⟨fun c hc => (upd_ne (by omega)).trans (h.1 c hc), fun j hj => ?_⟩
  rw [bC_s, bN_1 hb] at hj
  by_cases e : j = bC m i
  · subst e; rw [upd_at, psN_get m hm i hi hb]
  · rw [upd_ne (by omega)]; exact h.2 j (by omega)
/-- one value for all the new ones -/
def CoA (fmk g : Nat → Int32) (v : Int32) (n m i : Nat) : Prop := (∀ c, c < n → g c = fmk c) ∧ ∀ j, j < bC m i → g (n + j) = v
theorem CoA.zero {v : Int32} : CoA fpl fpl v n m 0 := ⟨fun _ _ => rfl, fun j hj => absurd hj (Nat.not_lt_zero j)⟩
theorem CoA.skip {v : Int32} (h : CoA fpl g v n m i) (hb : ¬ m.testBit i = true) : CoA fpl g v n m (i + 1) := ⟨h.1, fun j hj => h.2 j (by rw [bC_s, bN_0 hb] at hj; exact hj)⟩
theorem CoA.put {v : Int32} (h : CoA fpl g v n m i) (hb : m.testBit i = true) (hc : c2 = n + bC m i) : CoA fpl (upd g c2 v) v n m (i + 1) := by
  subst hc
  refine ⟨fun c hc => (upd_ne (by omega)).trans (h.1 c hc), fun j hj => ?_⟩
  rw [bC_s, bN_1 hb] at hj
  by_cases e : j = bC m i
  · subst e; rw [upd_at]
  · rw [upd_ne (by omega)]; exact h.2 j (by omega)
theorem updL_at (f : Nat → Int64) (i : Nat) (v : Int64) : vp_updL f i v i = v := by simp [vp_updL]
theorem updL_ne {f : Nat → Int64} {i j : Nat} {v : Int64} (h : j ≠ i) : vp_updL f i v j = f j := by simp [vp_updL, h]
/-- the conditions of each place -/
def OpA (g : Nat → Int64) (Op : Nat → Nat → Prop) (n m i : Nat) : Prop := ∀ p, p < 8 → B64 (g p) (fun c => Op p c ∨ (p < i ∧ m.testBit p = true ∧ c = n + bC m p))
theorem OpA.zero {f : Nat → Int64} {Op : Nat → Nat → Prop} (h : ∀ p, p < 8 → B64 (f p) (Op p)) : OpA f Op n m 0 := fun p hp => (h p hp).congr fun c => ⟨Or.inl, fun q => q.elim id (fun r => absurd r.1 (Nat.not_lt_zero p))⟩
theorem OpA.skip {f : Nat → Int64} {Op : Nat → Nat → Prop} (h : OpA f Op n m i) (hb : ¬ m.testBit i = true) : OpA f Op n m (i + 1) := fun p hp => (h p hp).congr fun c => by
  constructor
  · exact fun q => q.imp id (fun r => ⟨by omega, r.2⟩)
  · refine fun q => q.imp id (fun r => ⟨?_, r.2⟩)
    have : p ≠ i := fun e => hb (e ▸ r.2.1)
    omega
theorem OpA.put {f : Nat → Int64} {Op : Nat → Nat → Prop} (h : OpA f Op n m i) (hb : m.testBit i = true) (hc : c2 = n + bC m i) (h60 : c2 < 60) : OpA (vp_updL f i (f i ||| (1 <<< (Int32.toInt64 (nI c2) &&& 63)))) Op n m (i + 1) := fun p hp => by
  by_cases e : p = i
  · subst e
    rw [updL_at]
    refine ((h p hp).or (B64.bit (by omega))).congr fun c => ?_
    constructor
    · rintro ((q | q) | q)
      · exact Or.inl q
      · exact absurd q.1 (Nat.lt_irrefl _)
      · exact Or.inr ⟨by omega, hb, q.trans hc⟩
    · rintro (q | q)
      · exact Or.inl (Or.inl q)
      · exact Or.inr (q.2.2.trans hc.symm)
  · rw [updL_ne e]
    refine (h p hp).congr fun c => ?_
    constructor
    · exact fun q => q.imp id (fun r => ⟨by omega, r.2⟩)
    · exact fun q => q.imp id (fun r => ⟨by omega, r.2⟩)
/-- what is beside what, with the new ones -/
def coN (n n1 : Nat) (Z : Nat → Prop) (co : Nat → Nat → Prop) (c d : Nat) : Prop := (c < n ∧ (co c d ∨ (Z c ∧ n ≤ d ∧ d < n1))) ∨ (n ≤ c ∧ (Z d ∨ (n ≤ d ∧ d < n1)) ∧ d ≠ c)
def BsA (g : Nat → Int64) (n n1 : Nat) (Z : Nat → Prop) (co : Nat → Nat → Prop) (j : Nat) : Prop := (∀ c, c < j → B64 (g c) (coN n n1 Z co c)) ∧ ∀ c, j ≤ c → c < n → B64 (g c) (co c)
variable {f : Nat → Int64} {n1 j : Nat} {Z : Nat → Prop} {co : Nat → Nat → Prop}
theorem BsA.zero (h : BesI n f co) : BsA f n n1 Z co 0 := ⟨fun c hc => absurd hc (Nat.not_lt_zero c), fun c _ hc => h c hc⟩
theorem BsA.new {z md : Int64} (h : BsA f n n1 Z co j) (hj : n ≤ j) (hj1 : j < 60) (hz : B64 z Z) (hm : B64 md (fun d => n ≤ d ∧ d < n1)) (h60 : ∀ d, (Z d ∨ (n ≤ d ∧ d < n1)) → d < 64) : BsA (vp_updL f j ((z ||| md) &&& ((1 <<< (Int32.toInt64 (nI j) &&& 63)) ^^^ (-1)))) n n1 Z co (j + 1) := by
  refine ⟨fun c hc => ?_, fun c hc hn => ?_⟩
  · by_cases e : c = j
    · subst e
      rw [updL_at]
      refine ((hz.or hm).and (B64.not (B64.bit (by omega)))).congr fun d => ?_
      unfold coN
      constructor
      · rintro ⟨q, -, r⟩
        exact Or.inr ⟨hj, q, r⟩
      · rintro (⟨q, -⟩ | ⟨-, q, r⟩)
        · omega
        · exact ⟨q, h60 d q, r⟩
    · rw [updL_ne e]; exact h.1 c (by omega)
  · rw [updL_ne (by omega)]; exact h.2 c (by omega) hn
theorem BsA.old {md : Int64} (h : BsA f n n1 Z co j) (hj : j < n) (hZ : Z j) (hm : B64 md (fun d => n ≤ d ∧ d < n1)) : BsA (vp_updL f j (f j ||| md)) n n1 Z co (j + 1) := by
  refine ⟨fun c hc => ?_, fun c hc hn => ?_⟩
  · by_cases e : c = j
    · subst e
      rw [updL_at]
      refine ((h.2 c (Nat.le_refl _) hj).or hm).congr fun d => ?_
      unfold coN
      constructor
      · exact fun q => Or.inl ⟨hj, q.imp id (fun r => ⟨hZ, r⟩)⟩
      · rintro (⟨-, q⟩ | ⟨q, -⟩)
        · exact q.imp id (fun r => r.2)
        · omega
    · rw [updL_ne e]; exact h.1 c (by omega)
  · rw [updL_ne (by omega)]; exact h.2 c (by omega) hn
theorem BsA.same (h : BsA f n n1 Z co j) (hj : j < n) (hZ : ¬ Z j) : BsA f n n1 Z co (j + 1) := by
  refine ⟨fun c hc => ?_, fun c hc hn => h.2 c (by omega) hn⟩
  by_cases e : c = j
  · subst e
    refine (h.2 c (Nat.le_refl _) hj).congr fun d => ?_
    unfold coN
    constructor
    · exact fun q => Or.inl ⟨hj, Or.inl q⟩
    · rintro (⟨-, q⟩ | ⟨q, -⟩)
      · exact q.elim id (fun r => absurd r.1 hZ)
      · omega
  · exact h.1 c (by omega)
end ADC
theorem tb31 {n p : Nat} (h : n < 256) (hp : n.testBit p = true) : p < 31 := by
  rcases Nat.lt_or_ge p 31 with q | q
  · exact q
  · have : n.testBit p = false := Nat.testBit_lt_two_pow (Nat.lt_of_lt_of_le h (Nat.le_trans (by decide : 256 ≤ 2 ^ 31) (Nat.pow_le_pow_right (by decide) q)))
    rw [this] at hp; cases hp
theorem ad_made {x y : Int64} {a b : Nat} (hx : B64 x (fun d => d < b)) (hy : B64 y (fun d => d < a)) (hb : b ≤ 60 := by omega) : ∃ md, x &&& (y ^^^ (-1)) = md ∧ B64 md (fun d => a ≤ d ∧ d < b) :=
  ⟨_, rfl, (hx.and hy.not).congr fun d => by omega⟩
