/-! NetUnfolder.play: the markings on the way, and whether each step is enabled. -/
def tN (v : Int32) : Nat := v.toBitVec.toNat
theorem tN_nI {j : Nat} (h : j < 2 ^ 31) : tN (nI j) = j := pk_tn (by omega)
def pF (np nq : Nat → Int32) (x y : Int32) : Int32 := (x &&& (np (tN y) ^^^ (-1))) ||| nq (tN y)
def pM (np nq wf : Nat → Int32) (x : Int32) : Nat → Int32
  | 0 => x
  | i + 1 => pF np nq (pM np nq wf x i) (wf i)
def pE (np : Nat → Int32) (nz : Nat) (x y : Int32) : Prop := ∃ j, j < nz ∧ y = nI j ∧ x &&& np j = np j
theorem pM_s {np nq wf : Nat → Int32} {x v : Int32} {i j : Nat} (hv : v = pM np nq wf x i) (hj : wf i = nI j) (hj8 : j < 8) : (v &&& (np j ^^^ (-1))) ||| nq j = pM np nq wf x (i + 1) := by
  show _ = pF np nq (pM np nq wf x i) (wf i)
  rw [← hv, hj, pF, tN_nI (by omega)]
theorem pE_n1 {np : Nat → Int32} {nz : Nat} {x y : Int32} (hnz : nz ≤ 8) (h : y < 0) : ¬ pE np nz x y := by
  rintro ⟨j, hj, rfl, -⟩
  have := (nI_ltI (a := j) (b := 0) (by omega) (by omega)).mp h
  omega
theorem pE_n2 {np : Nat → Int32} {nz : Nat} {x y : Int32} (hnz : nz ≤ 8) (h : nI nz ≤ y) : ¬ pE np nz x y := by
  rintro ⟨j, hj, rfl, -⟩
  have := (nI_leI (a := nz) (b := j) (by omega) (by omega)).mp h
  omega
theorem pE_n3 {np : Nat → Int32} {nz j : Nat} {x : Int32} (hnz : nz ≤ 8) (hj : j < nz) (h : ¬ x &&& np j = np j) : ¬ pE np nz x (nI j) := by
  rintro ⟨k, hk, e, hp⟩
  have := (nI_eq (a := j) (b := k) (by omega) (by omega)).mp e
  subst this
  exact h hp
/-- what a play comes to -/
theorem play_cases {wl x : Int32} (hwl : WayI wl) (P : Nat → Prop) : x < 0 ∨ (∃ k, x = nI k ∧ k < 2 ^ 31 ∧ wl = -1) ∨ (∃ k n, x = nI k ∧ wl = nI n ∧ n ≤ 31 ∧ k < 2 ^ 31 ∧ n < k) ∨ (∃ k n, x = nI k ∧ wl = nI n ∧ n ≤ 31 ∧ k ≤ n ∧ ∀ i, i < k → P i) ∨ (∃ k n, x = nI k ∧ wl = nI n ∧ n ≤ 31 ∧ k ≤ n ∧ ¬ ∀ i, i < k → P i) := by
  by_cases h0 : x < 0
  · exact Or.inl h0
  obtain ⟨k, hk, rfl⟩ := nI_of h0
  refine Or.inr ?_
  rcases hwl with rfl | ⟨n, hn, rfl⟩
  · exact Or.inl ⟨k, rfl, hk, rfl⟩
  refine Or.inr ?_
  by_cases h1 : n < k
  · exact Or.inl ⟨k, n, rfl, rfl, hn, hk, h1⟩
  refine Or.inr ?_
  by_cases h2 : ∀ i, i < k → P i
  · exact Or.inl ⟨k, n, rfl, rfl, hn, by omega, h2⟩
  · exact Or.inr ⟨k, n, rfl, rfl, hn, by omega, h2⟩
