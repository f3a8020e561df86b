/-! The choices, as the class finds them. -/
section NX
variable {el : List Ent} {rk : Ent → Nat} {i b : Nat}
theorem nx_0 (h0 : 0 < el.length) : ∀ j (hj : j < el.length), j < 1 → ¬ befR rk (el[j]) (el[0]) := fun j hj h1 => by
  have : j = 0 := by omega
  subst this; exact befR_irr
theorem nx_y (hb : b < el.length) (hi : i < el.length) (h : ∀ j (hj : j < el.length), j < i → ¬ befR rk (el[j]) (el[b])) (hq : befR rk (el[i]) (el[b])) : ∀ j (hj : j < el.length), j < i + 1 → ¬ befR rk (el[j]) (el[i]) := fun j hj h1 q => by
  by_cases e : j = i
  · subst e; exact befR_irr q
  · exact h j hj (by omega) (befR_trans q hq)
theorem nx_n (hb : b < el.length) (hi : i < el.length) (h : ∀ j (hj : j < el.length), j < i → ¬ befR rk (el[j]) (el[b])) (hq : ¬ befR rk (el[i]) (el[b])) : ∀ j (hj : j < el.length), j < i + 1 → ¬ befR rk (el[j]) (el[b]) := fun j hj h1 q => by
  by_cases e : j = i
  · subst e; exact hq q
  · exact h j hj (by omega) q
end NX
def NW (t : Nat) (Lc : List Nat) (fr : Nat → Bool) (l : List (List Nat)) : List Ent := ((l.map (Lc ++ ·)).filter (fun L => L.any fr)).map (fun L => (t, L))
def chU (pr : Nat → Bool) (pl : Nat → Nat) (co : Nat → Nat → Bool) (nc r : Nat) (op : Nat → Bool) (i : Nat) : List (List Nat) := ((List.range i).filter (fun c => op c && (pl c == 7 - r))).flatMap (fun c => (chF pr pl co nc r (fun d => op d && co c d)).map (c :: ·))
section NWS
variable {t i r nc : Nat} {Lc : List Nat} {fr pr op : Nat → Bool} {pl : Nat → Nat} {co : Nat → Nat → Bool}
theorem NW_app (l m : List (List Nat)) : NW t Lc fr (l ++ m) = NW t Lc fr l ++ NW t Lc fr m := by
  unfold NW; rw [List.map_append, List.filter_append, List.map_append]
theorem NW_cons (l : List (List Nat)) : NW t Lc fr (l.map (i :: ·)) = NW t (Lc ++ [i]) fr l := by
  unfold NW
  rw [List.map_map]
  congr 2
  apply List.map_congr_left
  intro M _
  simp
theorem NW_none {l : List (List Nat)} (h : ∀ L ∈ l, ∀ c, (c ∈ Lc ∨ c ∈ L) → fr c = false) : NW t Lc fr l = [] := by
  unfold NW
  rw [List.map_eq_nil_iff, List.filter_eq_nil_iff]
  intro L hL q
  obtain ⟨M, hM, rfl⟩ := List.mem_map.mp hL
  obtain ⟨c, hc, hf⟩ := List.any_eq_true.mp q
  rw [h M hM c (List.mem_append.mp hc)] at hf
  cases hf
theorem NW_one (h : Lc.any fr = true) : NW t Lc fr [[]] = [(t, Lc)] := by
  unfold NW; simp [h]
theorem chU_0 : chU pr pl co nc r op 0 = [] := rfl
theorem chU_y (h : op i = true) (hp : pl i = 7 - r) : chU pr pl co nc r op (i + 1) = chU pr pl co nc r op i ++ (chF pr pl co nc r (fun d => op d && co i d)).map (i :: ·) := by
  unfold chU
  rw [List.range_succ, List.filter_append, List.flatMap_append]
  congr 1
  rw [List.filter_cons_of_pos (by simp [h, hp])]
  simp
theorem chU_n (h : ¬ (op i = true ∧ pl i = 7 - r)) : chU pr pl co nc r op (i + 1) = chU pr pl co nc r op i := by
  unfold chU
  rw [List.range_succ, List.filter_append, List.filter_cons_of_neg (by simpa using h)]
  simp
theorem chF_y (hp : pr (7 - r) = true) : chF pr pl co nc (r + 1) op = chU pr pl co nc r op nc := by
  simp only [chF, hp, if_true]; rfl
theorem chF_n (hp : ¬ pr (7 - r) = true) : chF pr pl co nc (r + 1) op = chF pr pl co nc r op := by
  simp only [chF, hp, if_false]; simp
theorem nw_nil {X Z : Nat → Prop} {x y z : Int64} (hx : B64 x X) (hy : B64 y (fun c => c ∈ Lc)) (hz : B64 z (fun c => fr c = true)) (hop : ∀ c, c < nc → (X c ↔ op c = true)) (h : ((x ||| y) &&& z) = 0) : NW t Lc fr (chF pr pl co nc r op) = [] := by
  refine NW_none fun L hL c hc => ?_
  have q := ((hx.or hy).and hz).nz.mp h c
  cases e : fr c with
  | false => rfl
  | true =>
    exfalso
    apply q
    refine ⟨?_, e⟩
    rcases hc with hc | hc
    · exact Or.inr hc
    · have := chF_mem hL c hc
      exact Or.inl ((hop c this.1).mpr this.2)
theorem nw_8 {y z : Int64} (hy : B64 y (fun c => c ∈ Lc)) (hz : B64 z (fun c => fr c = true)) (h : (y &&& z) = 0) : NW t Lc fr (chF pr pl co nc 0 op) = [] := by
  refine NW_none fun L hL c hc => ?_
  have q := (hy.and hz).nz.mp h c
  have hL : L ∈ [[]] := hL
  rw [List.mem_singleton] at hL
  subst hL
  cases e : fr c with
  | false => rfl
  | true =>
    rcases hc with hc | hc
    · exact absurd ⟨hc, e⟩ q
    · cases hc
theorem nw_8y {y z : Int64} (hy : B64 y (fun c => c ∈ Lc)) (hz : B64 z (fun c => fr c = true)) (h : ¬ (y &&& z) = 0) : NW t Lc fr (chF pr pl co nc 0 op) = [(t, Lc)] := by
  have : Lc.any fr = true := by
    refine Classical.byContradiction fun q => h ((hy.and hz).nz.mpr fun c r => q ?_)
    exact List.any_eq_true.mpr ⟨c, r.1, r.2⟩
  exact NW_one this
end NWS
