/-! Rows for the reference: bits of small numbers, the search through the choices, the order of sets. -/
def bN (n i : Nat) : Nat := if n.testBit i = true then 1 else 0
theorem bN_le (n i : Nat) : bN n i ≤ 1 := by unfold bN; split <;> omega
theorem bN_eq : ∀ n, n < 256 → ∀ i, i < 8 → (nI n >>> (nI i &&& 31)) &&& 1 = nI (bN n i) := by decide +kernel
def bC (n : Nat) : Nat → Nat
  | 0 => 0
  | i + 1 => bC n i + bN n i
theorem bC_s (n i : Nat) : bC n (i + 1) = bC n i + bN n i := rfl
theorem bC_i (n i : Nat) : bC n i ≤ i := by
  induction i with
  | zero => exact Nat.le_refl 0
  | succ i ih => have := bN_le n i; rw [bC_s]; omega
theorem bC_mono (n : Nat) {i k : Nat} (h : i ≤ k) : bC n i ≤ bC n k := by
  induction k with
  | zero => have : i = 0 := by omega
            subst this; exact Nat.le_refl _
  | succ k ih =>
    by_cases e : i = k + 1
    · subst e; exact Nat.le_refl _
    · have := ih (by omega)
      rw [bC_s]; omega
theorem bC_pos : ∀ n, n < 256 → 1 ≤ n → 1 ≤ bC n 8 := by decide +kernel
/-- the first n are marked sets of places, none empty -/
def PreI (f : Nat → Int32) (n : Nat) : Prop := ∀ j, j < n → ∃ k, k < 256 ∧ 1 ≤ k ∧ f j = nI k
theorem PreI.zero {f : Nat → Int32} : PreI f 0 := fun j hj => absurd hj (Nat.not_lt_zero j)
theorem PreI.push {f : Nat → Int32} {n k : Nat} (h : PreI f n) (hk : k < 256) (h1 : 1 ≤ k) : PreI (upd f n (nI k)) (n + 1) := fun j hj => by
  by_cases e : j = n
  · subst e; exact ⟨k, hk, h1, by simp [upd]⟩
  · obtain ⟨q, q1, q2, q3⟩ := h j (by omega)
    exact ⟨q, q1, q2, by simpa [upd, e] using q3⟩
theorem upd_ne {f : Nat → Int32} {i j : Nat} {v : Int32} (h : j ≠ i) : upd f i v j = f j := by simp [upd, h]
theorem AllLt.skip {f : Nat → Int32} {n b i : Nat} {v : Int32} (h : AllLt f n b) (hi : n ≤ i) : AllLt (upd f i v) n b := fun j hj => by
  obtain ⟨k, hk, e⟩ := h j hj
  exact ⟨k, hk, (upd_ne (by omega)).trans e⟩
theorem AllLt.toN {f : Nat → Int32} {n b : Nat} (h : AllLt f n b) : AllN f n b := fun j hj => Or.inr (h j hj)
/-- v + 1, for v from -1 on -/
def gof (v : Int32) : Nat := (v.toInt + 1).toNat
theorem gof_m1 : gof (-1) = 0 := by decide
theorem gof_nI {k : Nat} (h : k < 60) : gof (nI k) = k + 1 := by
  unfold gof; rw [nI_toInt (by omega)]; omega
theorem fur_s {x : Int32} (h : x = -1 ∨ ∃ j, j < 60 ∧ x = nI j) : ∃ a, a ≤ 60 ∧ x + 1 = nI a ∧ gof x = a := by
  rcases h with rfl | ⟨j, hj, rfl⟩
  · exact ⟨0, by omega, by decide, by decide⟩
  · exact ⟨j + 1, by omega, nI_1 j, gof_nI hj⟩
/-- how much the search through the choices may still do -/
def mz (f : Nat → Int32) : Nat → Nat
  | 0 => 0
  | n + 1 => mz f n + (61 - gof (f n)) * 64 ^ (8 - n)
theorem mz_s (f : Nat → Int32) (n : Nat) : mz f (n + 1) = mz f n + (61 - gof (f n)) * 64 ^ (8 - n) := rfl
theorem mz_skip {f : Nat → Int32} {n i : Nat} {v : Int32} (h : n ≤ i) : mz (upd f i v) n = mz f n := by
  induction n with
  | zero => rfl
  | succ n ih =>
    rw [mz_s, mz_s, ih (by omega)]
    have : upd f i v n = f n := upd_ne (by omega)
    rw [this]
theorem upd_at (f : Nat → Int32) (i : Nat) (v : Int32) : upd f i v i = v := by simp [upd]
theorem mz_a {f : Nat → Int32} {j : Nat} {v : Int32} (h : gof (f j) ≤ 60) : mz (upd f j v) j < mz f (j + 1) := by
  rw [mz_skip (Nat.le_refl _), mz_s]
  have h1 : 0 < 64 ^ (8 - j) := Nat.pow_pos (by decide)
  have h2 : 1 * 64 ^ (8 - j) ≤ (61 - gof (f j)) * 64 ^ (8 - j) := Nat.mul_le_mul_right _ (by omega)
  omega
theorem mz_b {f : Nat → Int32} {j : Nat} {v : Int32} (h : gof (f j) < gof v) (h2 : gof v ≤ 60) : mz (upd f j v) (j + 1) < mz f (j + 1) := by
  rw [mz_s, mz_s, mz_skip (Nat.le_refl _), upd_at]
  have h1 : 0 < 64 ^ (8 - j) := Nat.pow_pos (by decide)
  have h3 : (61 - gof v) * 64 ^ (8 - j) < (61 - gof (f j)) * 64 ^ (8 - j) := Nat.mul_lt_mul_of_pos_right (by omega) h1
  omega
theorem mz_c {f : Nat → Int32} {j : Nat} {v : Int32} (h : gof (f j) < gof v) (h2 : gof v ≤ 60) (hj : j < 7) : mz (upd (upd f j v) (j + 1) (-1)) (j + 2) < mz f (j + 1) := by
  rw [mz_s, upd_at, mz_skip (Nat.le_refl _), mz_s, upd_at, mz_skip (Nat.le_refl _), mz_s, gof_m1]
  have e : 64 ^ (8 - j) = 64 * 64 ^ (8 - (j + 1)) := by
    have : 8 - j = (8 - (j + 1)) + 1 := by omega
    rw [this, Nat.pow_succ, Nat.mul_comm]
  have h1 : 0 < 64 ^ (8 - (j + 1)) := Nat.pow_pos (by decide)
  rw [e]
  generalize 64 ^ (8 - (j + 1)) = w at *
  obtain ⟨d, hd⟩ : ∃ d, gof v = gof (f j) + 1 + d := ⟨gof v - gof (f j) - 1, by omega⟩
  have e1 : 61 - gof (f j) = (61 - gof v) + (d + 1) := by omega
  rw [e1, Nat.add_mul]
  have h3 : 64 * w ≤ (d + 1) * (64 * w) := Nat.le_mul_of_pos_left _ (by omega)
  omega
theorem KvI.of' {k : Nat} (h : k + 1 ≤ 38) : KvI (k + 1) (nI k) := Or.inr ⟨by omega, h, rfl⟩
/-- a set of events as a number, the first event first -/
def vN (p : Nat → Bool) : Nat → Nat
  | 0 => 0
  | n + 1 => 2 * vN p n + (if p n = true then 1 else 0)
theorem vN_lt (p : Nat → Bool) (n : Nat) : vN p n < 2 ^ n := by
  induction n with
  | zero => exact Nat.one_pos
  | succ n ih => show 2 * vN p n + _ < _; rw [Nat.pow_succ]; split <;> omega
theorem vN_congr {p q : Nat → Bool} {n : Nat} (h : ∀ i, i < n → p i = q i) : vN p n = vN q n := by
  induction n with
  | zero => rfl
  | succ n ih => show 2 * vN p n + _ = 2 * vN q n + _; rw [ih (fun i hi => h i (by omega)), h n (by omega)]
theorem vN_lex {p q : Nat → Bool} {a n : Nat} (h : ∀ i, i < a → p i = q i) (hp : p a = false) (hq : q a = true) (hn : a < n) : vN p n < vN q n := by
  induction n with
  | zero => omega
  | succ n ih =>
    show 2 * vN p n + _ < 2 * vN q n + _
    by_cases e : a = n
    · subst e
      rw [vN_congr h, hp, hq]
      simp
    · have := ih (by omega)
      split <;> split <;> omega
def vY (x : Int64) : Nat := vN (fun i => x.toBitVec.getLsbD i) 30
theorem vY_lt (x : Int64) : vY x < 2 ^ 30 := vN_lt _ _
theorem KvI.s {j : Nat} {kv : Int32} (h : KvI (j + 1) kv) : kv = nI j := by
  rcases h with ⟨h, -⟩ | ⟨-, -, rfl⟩
  · omega
  · rfl
/-- the set that is tried next stands further on -/
theorem ans_lt {y z : Int64} {kv : Int32} {g mev fnd : Nat} (hg : g ≤ mev) (hm : mev ≤ 30) (hkv : KvI g kv) (hag : ∀ i, i < g → z.toBitVec.getLsbD i = y.toBitVec.getLsbD i) (hfn : fnd = 0 ∨ (fnd = 1 ∧ ∃ j, g = j + 1 ∧ y.toBitVec.getLsbD j = false)) (hf : ¬ fnd = 0) : vY y < vY (z ||| (1 <<< (Int32.toInt64 kv &&& 63))) := by
  obtain ⟨-, j, rfl, hj⟩ := hfn.resolve_left hf
  have := hkv.s
  subst this
  have hb := bitb (v := j) (by omega)
  refine vN_lex (a := j) (fun i hi => ?_) hj ?_ (by omega)
  · show _ = (z ||| _).toBitVec.getLsbD i
    rw [Int64.toBitVec_or, BitVec.getLsbD_or, hag i (by omega)]
    have : ((1 : Int64) <<< (Int32.toInt64 (nI j) &&& 63)).toBitVec.getLsbD i = false := by
      cases hq : ((1 : Int64) <<< (Int32.toInt64 (nI j) &&& 63)).toBitVec.getLsbD i with
      | false => rfl
      | true => have := (hb i).mp hq; omega
    rw [this, Bool.or_false]
  · show (z ||| _).toBitVec.getLsbD j = true
    rw [Int64.toBitVec_or, BitVec.getLsbD_or, (hb j).mpr rfl, Bool.or_true]
theorem clr_ag {y z : Int64} {g j : Nat} (hag : ∀ i, i < g → z.toBitVec.getLsbD i = y.toBitVec.getLsbD i) (hj : j < 30) (hg : g = j + 1) : ∀ i, i < j → (z &&& ((1 <<< (Int32.toInt64 (nI j) &&& 63)) ^^^ (-1))).toBitVec.getLsbD i = y.toBitVec.getLsbD i := fun i hi => by
  rw [Int64.toBitVec_and, BitVec.getLsbD_and, neg_bit, hag i (by omega)]
  have hb := bitb (v := j) (by omega) i
  have : ((1 : Int64) <<< (Int32.toInt64 (nI j) &&& 63)).toBitVec.getLsbD i = false := by
    cases hq : ((1 : Int64) <<< (Int32.toInt64 (nI j) &&& 63)).toBitVec.getLsbD i with
    | false => rfl
    | true => have := hb.mp hq; omega
  rw [this]
  simp only [Bool.not_false, Bool.and_true]
  have : decide (i < 64) = true := by simp; omega
  rw [this, Bool.and_true]
theorem clr_ag1 {y z : Int64} {g j : Nat} (hag : ∀ i, i < g → z.toBitVec.getLsbD i = y.toBitVec.getLsbD i) (hj : j < 30) (hg : g = j + 1) (h0 : z.toBitVec.getLsbD j = false) : ∀ i, i < g → (z &&& ((1 <<< (Int32.toInt64 (nI j) &&& 63)) ^^^ (-1))).toBitVec.getLsbD i = y.toBitVec.getLsbD i := fun i hi => by
  by_cases e : i = j
  · subst e
    rw [Int64.toBitVec_and, BitVec.getLsbD_and, h0, Bool.false_and]
    rw [← hag i (by omega), h0]
  · exact clr_ag hag hj hg i (by omega)
/-- the reference's way: none, or its length -/
def MlI (v : Int32) : Prop := v = -1 ∨ ∃ n, n ≤ 61 ∧ v = nI n
theorem ix_out {x : Int32} {n : Nat} (hn : n ≤ 1000) (h0 : ¬ x < 0) (h1 : ¬ (nI n - 1) < x) : ∃ j, j < n ∧ x = nI j := by
  obtain ⟨j, hj, rfl⟩ := nI_of h0
  by_cases e : n = 0
  · subst e
    have h2 := Int32.lt_iff_toInt_lt (x := nI 0 - 1) (y := nI j)
    rw [nI_toInt hj, (by decide : (nI 0 - 1).toInt = -1)] at h2
    exact absurd (h2.mpr (by omega)) h1
  · have e1 : nI n - 1 = nI (n - 1) := cv_sub (b := 1) (by omega)
    rw [e1, nI_ltI (by omega) hj] at h1
    exact ⟨j, by omega, rfl⟩
theorem ix_way {x v : Int32} (hv : MlI v) (h0 : ¬ x < 0) (h1 : ¬ (v - 1) < x) : ∃ j, j < 61 ∧ x = nI j := by
  rcases hv with rfl | ⟨n, hn, rfl⟩
  · obtain ⟨j, hj, rfl⟩ := nI_of h0
    have h2 := Int32.lt_iff_toInt_lt (x := (-1 : Int32) - 1) (y := nI j)
    rw [nI_toInt hj, (by decide : ((-1 : Int32) - 1).toInt = -2)] at h2
    exact absurd (h2.mpr (by omega)) h1
  · obtain ⟨j, hj, e⟩ := ix_out (n := n) (by omega) h0 h1
    exact ⟨j, by omega, e⟩
theorem ix_c {x : Int32} {n : Nat} (hn : n < 1000) (h0 : ¬ x < 0) (h1 : ¬ nI n < x) : ∃ j, j ≤ n ∧ x = nI j := by
  obtain ⟨j, hj, rfl⟩ := nI_of h0
  rw [nI_ltI (by omega) hj] at h1
  exact ⟨j, by omega, rfl⟩
theorem gof_le {v : Int32} (h : v = -1 ∨ ∃ k, k < 60 ∧ v = nI k) : gof v ≤ 60 := by
  rcases h with rfl | ⟨k, hk, rfl⟩
  · decide
  · rw [gof_nI hk]; omega
theorem AllN.one {f : Nat → Int32} {b : Nat} (h : f 0 = -1 ∨ ∃ k, k < b ∧ f 0 = nI k) : AllN f 1 b := fun j hj => by
  have : j = 0 := by omega
  subst this; exact h
theorem AllLt.cast {f : Nat → Int32} {n n' b : Nat} (h : AllLt f n b) (e : n = n') : AllLt f n' b := e ▸ h
theorem gt_of_nle {x z : Int32} (h : ¬ x ≤ z) : z < x := by
  rw [Int32.le_iff_toInt_le] at h; rw [Int32.lt_iff_toInt_lt]; omega
theorem le_nlt {x z : Int32} (h : x ≤ z) : ¬ z < x := by
  rw [Int32.le_iff_toInt_le] at h; rw [Int32.lt_iff_toInt_lt]; omega
theorem KvI.dec2 {j : Nat} (hj : j < 38) : ∃ v, nI j - 1 = v ∧ KvI j v := by
  refine ⟨_, rfl, ?_⟩
  by_cases h : j = 0
  · subst h; exact Or.inl ⟨rfl, by decide⟩
  · exact Or.inr ⟨by omega, by omega, cv_sub (b := 1) (by omega)⟩
theorem KvI.ini {n : Nat} (hn : n ≤ 30) : ∃ v, nI n - 1 = v ∧ KvI n v := KvI.dec2 (by omega)
theorem clr_ag1' {y z : Int64} {g j : Nat} (hag : ∀ i, i < g → z.toBitVec.getLsbD i = y.toBitVec.getLsbD i) (hj : j < 30) (hg : g = j + 1) (h0 : z.toBitVec.getLsbD j = false) : ∀ i, i < j + 1 → (z &&& ((1 <<< (Int32.toInt64 (nI j) &&& 63)) ^^^ (-1))).toBitVec.getLsbD i = y.toBitVec.getLsbD i := by
  subst hg; exact clr_ag1 hag hj rfl h0
theorem ans_ms {okn fnd n : Nat} {y w : Int64} (h1 : ¬ okn = 0) (hok : okn ≤ 1) (hf : fnd ≤ 1) (hlt : vY y < vY w) (hm : okn * (2 ^ 30 - vY y) < n + 1) : fnd * (2 ^ 30 - vY w) < n := by
  have e : okn = 1 := by omega
  subst e
  have h2 := vY_lt w
  have h3 : fnd * (2 ^ 30 - vY w) ≤ 1 * (2 ^ 30 - vY w) := Nat.mul_le_mul_right _ hf
  omega
theorem ans_m0 {okn fnd n : Nat} {y w : Int64} (h1 : ¬ okn = 0) (hf : fnd = 0) (hm : okn * (2 ^ 30 - vY y) < n + 1) : fnd * (2 ^ 30 - vY w) < n := by
  subst hf
  have h2 := vY_lt y
  have h3 : 1 * (2 ^ 30 - vY y) ≤ okn * (2 ^ 30 - vY y) := Nat.mul_le_mul_right _ (by omega)
  omega
theorem fn_le {fnd g : Nat} {y : Int64} (h : fnd = 0 ∨ (fnd = 1 ∧ ∃ j, g = j + 1 ∧ y.toBitVec.getLsbD j = false)) : fnd ≤ 1 := by
  rcases h with h | ⟨h, -⟩ <;> omega
/-- outside: the other case -/
theorem out_0 {r x y z : Int32} (h : (r = 1 ∧ (x < y ∨ z < x)) ∨ (r = 0 ∧ ¬ x < y ∧ ¬ z < x)) (h0 : r = 0) : ¬ x < y ∧ ¬ z < x := by
  rcases h with ⟨h, -⟩ | ⟨-, h⟩
  · rw [h0] at h; exact absurd h (by decide)
  · exact h
theorem out_1 {r x y z : Int32} (h : (r = 1 ∧ (x < y ∨ z < x)) ∨ (r = 0 ∧ ¬ x < y ∧ ¬ z < x)) (h0 : ¬ r = 0) : x < y ∨ z < x := by
  rcases h with ⟨-, h⟩ | ⟨h, -⟩
  · exact h
  · exact absurd h h0
theorem out_m1 {x : Int32} (h : x < 0 ∨ 255 < x) : isMv x = 0 := by
  unfold isMv
  rcases h with h | h
  · simp [h]
  · split
    · rfl
    · simp [h]
theorem out_m0 {x : Int32} (h : ¬ x < 0 ∧ ¬ 255 < x) : ¬ isMv x = 0 := by
  unfold isMv
  rw [if_neg h.1, if_neg h.2]
  decide
theorem out_nat {x : Int32} {a b : Nat} (hb : b < 1000) (ha : a ≤ b) (h : ¬ x < nI a ∧ ¬ nI b < x) : ∃ n, a ≤ n ∧ n ≤ b ∧ x = nI n := by
  have h0 : ¬ x < 0 := fun q => h.1 (by
    have h1 := Int32.lt_iff_toInt_lt.mp q
    rw [Int32.lt_iff_toInt_lt, nI_toInt (by omega)]
    have : (0 : Int32).toInt = 0 := by decide
    omega)
  obtain ⟨j, hj, rfl⟩ := nI_of h0
  have h1 := h.1
  have h2 := h.2
  rw [nI_ltI hj (by omega)] at h1
  rw [nI_ltI (by omega) hj] at h2
  exact ⟨j, by omega, by omega, rfl⟩
theorem MlI.nat {v : Int32} (h : MlI v) (h0 : ¬ v = -1) : ∃ n, n ≤ 61 ∧ v = nI n := h.resolve_left h0
theorem ix_le {x : Int32} {n : Nat} (hn : n < 2 ^ 31) (h0 : ¬ x < 0) (h1 : x ≤ nI n) : ∃ j, j ≤ n ∧ x = nI j := by
  obtain ⟨j, hj, rfl⟩ := nI_of h0
  exact ⟨j, (nI_leI hj hn).mp h1, rfl⟩
section RZ
variable {p : Program} {l : Launch} {e : Env} {R : Room} {s : State} {m : MethodId} {args : Array Value} {below : List Frame} {meth : Method} {c : Code} {H : Heap} {locs : List Loc} {cells slots : Nat} {Q : State → Prop} {pc : Nat} {ls : Array Slot} {rest : List Value} {cc : ByteArray} {D : va_G} {cl : List vw_C} {tys : List (ClassId × FieldType)} {ws : va_W} {A : Nat → Prop} {H0 : Heap} {a : Nat}
theorem na_zast {k : Nat} (hexec : p.tables.exec = Jvm.exec) (hb : c.code = cc) (hK : va_K D cl tys s) (hP : va_P D cl ws H) (hD : va_D A ws) (hS : va_S A H0 H locs) (q0 t0 : Nat) {cA : ClassId} {n : Nat} {f : Nat → Int32} (ha : ws[q0]? = some (a, .inl (cA, n, .inl f))) (ht : tys[t0]? = some (cA, .boolean)) {x : Int32} (hk : k < n) (hn : n < 2 ^ 31) (hz : vp_nar .boolean x = x) (hdg : decode cc pc = .ok (.bastore, 1))
    (kk : ∀ (H1 : Heap) (locs1 : List Loc), va_P D cl (ws.set q0 (a, .inl (cA, n, .inl (upd f k x)))) H1 → va_D A (ws.set q0 (a, .inl (cA, n, .inl (upd f k x)))) → va_S A H0 H1 locs1 → W p l e R s m args below meth c H1 locs1 cells slots Q (F0 m (pc + 1) ls rest)) : W p l e R s m args below meth c H locs cells slots Q (F0 m pc ls (.int x :: .int (nI k) :: .ref a :: rest)) := by
  refine va_zast hexec hb hK hP hD hS q0 t0 ha ht (vp_in_nI hk hn) hdg (fun H1 locs1 h1 h2 h3 => ?_)
  rw [nI_clamp (by omega), hz] at h1 h2
  exact kk H1 locs1 h1 h2 h3
end RZ
/-- what transition comes to: 1 and 2 the exceptions, 0 none -/
def trv (x y : Int32) (n : Nat) : Int32 := if x = 0 ∨ isMv x = 0 ∨ isMv y = 0 then 1 else if n = 8 then 2 else 0
theorem trv_1 {x y : Int32} {n : Nat} (h : x = 0 ∨ isMv x = 0 ∨ isMv y = 0) : trv x y n = 1 := by unfold trv; rw [if_pos h]
theorem trv_2 {x y : Int32} {n : Nat} (h1 : ¬ x = 0) (h2 : ¬ isMv x = 0) (h3 : ¬ isMv y = 0) (h : n = 8) : trv x y n = 2 := by
  unfold trv; rw [if_neg (fun q => q.elim h1 (fun q => q.elim h2 h3)), if_pos h]
theorem trv_0 {x y : Int32} {n : Nat} (h1 : ¬ x = 0) (h2 : ¬ isMv x = 0) (h3 : ¬ isMv y = 0) (h : ¬ n = 8) : trv x y n = 0 := by
  unfold trv; rw [if_neg (fun q => q.elim h1 (fun q => q.elim h2 h3)), if_neg h]
theorem out_x1 {x : Int32} (h : x < 1 ∨ 255 < x) : x = 0 ∨ isMv x = 0 := by
  rcases h with h | h
  · by_cases h0 : x = 0
    · exact Or.inl h0
    · refine Or.inr (out_m1 (Or.inl ?_))
      have h1 := fa_lt (k := 1) (by decide) h
      have h2 := fa_ne (k := 0) (by decide) h0
      exact ga_lt (k := 0) (by decide) (by omega)
  · exact Or.inr (out_m1 (Or.inr h))
theorem nI_n0 {n : Nat} (h1 : 1 ≤ n) (h2 : n ≤ 255) : ¬ nI n = 0 := fun q => by
  have := (nI_eq (a := n) (b := 0) (by omega) (by omega)).mp q
  omega
theorem nI_mv {n : Nat} (h2 : n ≤ 255) : ¬ isMv (nI n) = 0 := out_m0 ⟨fun q => by
  have := (nI_ltI (a := n) (b := 0) (by omega) (by omega)).mp q
  omega, fun q => by
  have := (nI_ltI (a := 255) (b := n) (by omega) (by omega)).mp q
  omega⟩
theorem po_i {n i q k : Nat} (hi : i ≤ 8) (hq : q + bC n i = k) (hk : k < bC n 8) : i < 8 := by
  rcases Nat.lt_or_ge i 8 with h | h
  · exact h
  · have e : i = 8 := by omega
    subst e; omega
