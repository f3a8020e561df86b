/-! Rows over Nat indices; comparisons of nI; the goal's end by a name. -/
section R2
variable {p : Program} {l : Launch} {e : Env} {R : Room} {s : State} {m : MethodId} {args : Array Value} {below : List Frame} {meth : Method} {c : Code} {H : Heap} {locs : List Loc} {cells slots : Nat} {Q : State → Prop} {pc : Nat} {ls : Array Slot} {rest : List Value} {cc : ByteArray}
theorem W_Q {g : JFrame} (k : ∀ Q' : State → Prop, Q' = Q → W p l e R s m args below meth c H locs cells slots Q' g) : W p l e R s m args below meth c H locs cells slots Q g := k Q rfl
variable {D : va_G} {cl : List vw_C} {tys : List (ClassId × FieldType)} {ws : va_W} {A : Nat → Prop} {H0 : Heap} {a : Nat}
theorem na_iald {k : Nat} (hexec : p.tables.exec = Jvm.exec) (hb : c.code = cc) (hK : va_K D cl tys s) (hP : va_P D cl ws H) (q0 t0 : Nat) {cA : ClassId} {n : Nat} {f : Nat → Int32} (ha : ws[q0]? = some (a, .inl (cA, n, .inl f))) (ht : tys[t0]? = some (cA, .int)) (hk : k < n) (hn : n < 2 ^ 31) (hdg : decode cc pc = .ok (.iaload, 1))
    (kk : W p l e R s m args below meth c H locs cells slots Q (F0 m (pc + 1) ls (.int (f k) :: rest))) : W p l e R s m args below meth c H locs cells slots Q (F0 m pc ls (.int (nI k) :: .ref a :: rest)) := by
  refine va_iald hexec hb hK hP q0 t0 ha ht (vp_in_nI hk hn) hdg ?_
  rw [nI_clamp (by omega)]
  exact kk
theorem na_lald {k : Nat} (hexec : p.tables.exec = Jvm.exec) (hb : c.code = cc) (hK : va_K D cl tys s) (hP : va_P D cl ws H) (q0 t0 : Nat) {cA : ClassId} {n : Nat} {f : Nat → Int64} (ha : ws[q0]? = some (a, .inl (cA, n, .inr (.inl f)))) (ht : tys[t0]? = some (cA, .long)) (hk : k < n) (hn : n < 2 ^ 31) (hdg : decode cc pc = .ok (.laload, 1))
    (kk : W p l e R s m args below meth c H locs cells slots Q (F0 m (pc + 1) ls (.long (f k) :: rest))) : W p l e R s m args below meth c H locs cells slots Q (F0 m pc ls (.int (nI k) :: .ref a :: rest)) := by
  refine va_lald hexec hb hK hP q0 t0 ha ht (vp_in_nI hk hn) hdg ?_
  rw [nI_clamp (by omega)]
  exact kk
theorem na_zald {k : Nat} (hexec : p.tables.exec = Jvm.exec) (hb : c.code = cc) (hK : va_K D cl tys s) (hP : va_P D cl ws H) (q0 t0 : Nat) {cA : ClassId} {n : Nat} {f : Nat → Int32} (ha : ws[q0]? = some (a, .inl (cA, n, .inl f))) (ht : tys[t0]? = some (cA, .boolean)) (hk : k < n) (hn : n < 2 ^ 31) (hdg : decode cc pc = .ok (.baload, 1))
    (kk : W p l e R s m args below meth c H locs cells slots Q (F0 m (pc + 1) ls (.int (f k) :: rest))) : W p l e R s m args below meth c H locs cells slots Q (F0 m pc ls (.int (nI k) :: .ref a :: rest)) := by
  refine va_zald hexec hb hK hP q0 t0 ha ht (vp_in_nI hk hn) hdg ?_
  rw [nI_clamp (by omega)]
  exact kk
theorem na_iast {k : Nat} (hexec : p.tables.exec = Jvm.exec) (hb : c.code = cc) (hK : va_K D cl tys s) (hP : va_P D cl ws H) (hD : va_D A ws) (hS : va_S A H0 H locs) (q0 t0 : Nat) {cA : ClassId} {n : Nat} {f : Nat → Int32} (ha : ws[q0]? = some (a, .inl (cA, n, .inl f))) (ht : tys[t0]? = some (cA, .int)) {x : Int32} (hk : k < n) (hn : n < 2 ^ 31) (hdg : decode cc pc = .ok (.iastore, 1))
    (kk : ∀ (H1 : Heap) (locs1 : List Loc), va_P D cl (ws.set q0 (a, .inl (cA, n, .inl (upd f k x)))) H1 → va_D A (ws.set q0 (a, .inl (cA, n, .inl (upd f k x)))) → va_S A H0 H1 locs1 → W p l e R s m args below meth c H1 locs1 cells slots Q (F0 m (pc + 1) ls rest)) : W p l e R s m args below meth c H locs cells slots Q (F0 m pc ls (.int x :: .int (nI k) :: .ref a :: rest)) := by
  refine va_iast hexec hb hK hP hD hS q0 t0 ha ht (vp_in_nI hk hn) hdg (fun H1 locs1 h1 h2 h3 => ?_)
  rw [nI_clamp (by omega)] at h1 h2
  exact kk H1 locs1 h1 h2 h3
theorem na_last {k : Nat} (hexec : p.tables.exec = Jvm.exec) (hb : c.code = cc) (hK : va_K D cl tys s) (hP : va_P D cl ws H) (hD : va_D A ws) (hS : va_S A H0 H locs) (q0 t0 : Nat) {cA : ClassId} {n : Nat} {f : Nat → Int64} (ha : ws[q0]? = some (a, .inl (cA, n, .inr (.inl f)))) (ht : tys[t0]? = some (cA, .long)) {x : Int64} (hk : k < n) (hn : n < 2 ^ 31) (hdg : decode cc pc = .ok (.lastore, 1))
    (kk : ∀ (H1 : Heap) (locs1 : List Loc), va_P D cl (ws.set q0 (a, .inl (cA, n, .inr (.inl (vp_updL f k x))))) H1 → va_D A (ws.set q0 (a, .inl (cA, n, .inr (.inl (vp_updL f k x))))) → va_S A H0 H1 locs1 → W p l e R s m args below meth c H1 locs1 cells slots Q (F0 m (pc + 1) ls rest)) : W p l e R s m args below meth c H locs cells slots Q (F0 m pc ls (.long x :: .int (nI k) :: .ref a :: rest)) := by
  refine va_last hexec hb hK hP hD hS q0 t0 ha ht (vp_in_nI hk hn) hdg (fun H1 locs1 h1 h2 h3 => ?_)
  rw [nI_clamp (by omega)] at h1 h2
  exact kk H1 locs1 h1 h2 h3
end R2
section CV
variable {a b : Nat}
theorem cv_lt (ha : a < 2 ^ 31) (hb : b < 2 ^ 31) (h : nI a < nI b) : a < b := (nI_ltI ha hb).mp h
theorem cv_nlt (ha : a < 2 ^ 31) (hb : b < 2 ^ 31) (h : ¬ nI a < nI b) : b ≤ a := Nat.le_of_not_lt fun q => h ((nI_ltI ha hb).mpr q)
theorem cv_le (ha : a < 2 ^ 31) (hb : b < 2 ^ 31) (h : nI a ≤ nI b) : a ≤ b := (nI_leI ha hb).mp h
theorem cv_nle (ha : a < 2 ^ 31) (hb : b < 2 ^ 31) (h : ¬ nI a ≤ nI b) : b < a := Nat.lt_of_not_le fun q => h ((nI_leI ha hb).mpr q)
theorem cv_eq (ha : a < 2 ^ 31) (hb : b < 2 ^ 31) (h : nI a = nI b) : a = b := (nI_eq ha hb).mp h
theorem cv_ne (ha : a < 2 ^ 31) (hb : b < 2 ^ 31) (h : ¬ nI a = nI b) : ¬ a = b := fun q => h ((nI_eq ha hb).mpr q)
theorem cv_nm1 (ha : a < 2 ^ 31) (h : nI a = -1) : False := by
  have := congrArg Int32.toInt h
  rw [nI_toInt ha] at this
  have h2 : (-1 : Int32).toInt = -1 := by decide
  omega
theorem cv_dec (ha : 1 ≤ a) : nI a + Int32.ofInt (-1) = nI (a - 1) := by
  have := pk_m1 (a - 1)
  rw [Nat.sub_add_cancel ha] at this
  exact this
theorem cv_add (a b : Nat) : nI a + nI b = nI (a + b) := nI_add a b
theorem cv_sub (h : b ≤ a) : nI a - nI b = nI (a - b) := pk_sub h
theorem cv_mul (a b : Nat) : nI a * nI b = nI (a * b) := pk_mul a b
end CV
theorem bz_nar {v : Int32} (h : v = 0 ∨ v = 1) : narrow .boolean (.int v) = .int v := by rcases h with rfl | rfl <;> rfl
theorem bz_fit {v : Int32} (h : v = 0 ∨ v = 1) : fits .boolean (.int v) = true := by rcases h with rfl | rfl <;> rfl
/-- the first n values are below b -/
def AllLt (f : Nat → Int32) (n b : Nat) : Prop := ∀ j, j < n → ∃ k, k < b ∧ f j = nI k
/-- .. or -1 -/
def AllN (f : Nat → Int32) (n b : Nat) : Prop := ∀ j, j < n → f j = -1 ∨ ∃ k, k < b ∧ f j = nI k
theorem AllLt.mono {f : Nat → Int32} {n n' b : Nat} (h : AllLt f n b) (hn : n' ≤ n) : AllLt f n' b := fun j hj => h j (Nat.lt_of_lt_of_le hj hn)
theorem AllN.mono {f : Nat → Int32} {n n' b : Nat} (h : AllN f n b) (hn : n' ≤ n) : AllN f n' b := fun j hj => h j (Nat.lt_of_lt_of_le hj hn)
theorem AllLt.zero {f : Nat → Int32} {b : Nat} : AllLt f 0 b := fun j hj => absurd hj (Nat.not_lt_zero j)
theorem AllN.zero {f : Nat → Int32} {b : Nat} : AllN f 0 b := fun j hj => absurd hj (Nat.not_lt_zero j)
theorem AllLt.put {f : Nat → Int32} {n b i k : Nat} (h : AllLt f n b) (hk : k < b) : AllLt (upd f i (nI k)) n b := fun j hj => by
  by_cases e : j = i
  · subst e; exact ⟨k, hk, by simp [upd]⟩
  · obtain ⟨q, h1, h2⟩ := h j hj
    exact ⟨q, h1, by simp [upd, e, h2]⟩
theorem AllLt.push {f : Nat → Int32} {n b k : Nat} (h : AllLt f n b) (hk : k < b) : AllLt (upd f n (nI k)) (n + 1) b := fun j hj => by
  by_cases e : j = n
  · subst e; exact ⟨k, hk, by simp [upd]⟩
  · obtain ⟨q, h1, h2⟩ := h j (by omega)
    exact ⟨q, h1, by simp [upd, e, h2]⟩
theorem AllN.put {f : Nat → Int32} {n b i : Nat} {v : Int32} (h : AllN f n b) (hv : v = -1 ∨ ∃ k, k < b ∧ v = nI k) : AllN (upd f i v) n b := fun j hj => by
  by_cases e : j = i
  · subst e; simpa [upd] using hv
  · simpa [upd, e] using h j hj
theorem AllN.push {f : Nat → Int32} {n b : Nat} {v : Int32} (h : AllN f n b) (hv : v = -1 ∨ ∃ k, k < b ∧ v = nI k) : AllN (upd f n v) (n + 1) b := fun j hj => by
  by_cases e : j = n
  · subst e; simpa [upd] using hv
  · simpa [upd, e] using h j (by omega)
