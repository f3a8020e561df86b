/-! The beginning; what may come next. -/
def px0 (ps : List Nat) : Px := Px.mk (ps.length) (0) (fun c => ps.getD c 0) (fun _ => none) (fun _ => 0) (fun _ _ => false) (fun _ _ => false) (fun _ => false) (fun _ _ => false) (fun _ => 0)
theorem px0_ok (N : Net8) : PxOk N (px0 (plc N.fi)) := ⟨(fun a c q => by cases q),
  (fun c a q => by cases q),
  (fun a c b q => by cases q),
  (fun a f => Iff.intro (fun q => by cases q) (fun q => absurd q.1 (Nat.not_lt_zero _))),
  (fun a x y q => by cases q),
  (fun c _ => And.intro (fun f g y hf => by
    rcases hf with ⟨a, q, _⟩ | ⟨a, q, _⟩ <;> cases q) (fun f hf => by
    rcases hf with ⟨a, q, _⟩ | ⟨a, q, _⟩ <;> cases q)),
  (fun a q => absurd q (Nat.not_lt_zero _)),
  (fun c d hc hd hne _ e => by
    have hc : c < (plc N.fi).length := hc
    have hd : d < (plc N.fi).length := hd
    have e : (plc N.fi).getD c 0 = (plc N.fi).getD d 0 := e
    rw [List.getD_eq_getElem?_getD, List.getD_eq_getElem?_getD, List.getElem?_eq_getElem hc, List.getElem?_eq_getElem hd] at e
    exact hne ((List.getElem_inj (plc_nodup N.fi)).mp (by simpa using e))),
  (fun c a q => by cases q),
  (fun a q => absurd q (Nat.not_lt_zero _)),
  (fun a q => absurd q (Nat.not_lt_zero _)),
  (fun p => by
    rw [← plc_mem]
    constructor
    · rintro ⟨c, hc, -, rfl⟩
      have hc : c < (plc N.fi).length := hc
      show (plc N.fi).getD c 0 ∈ _
      rw [List.getD_eq_getElem?_getD, List.getElem?_eq_getElem hc]
      exact List.getElem_mem _
    · intro hp
      obtain ⟨i, hi, e⟩ := List.mem_iff_getElem.mp hp
      exact ⟨i, hi, rfl, by show (plc N.fi).getD i 0 = p; rw [List.getD_eq_getElem?_getD, List.getElem?_eq_getElem hi, e]; rfl⟩),
  (fun c hc => by
    have hc : c < (plc N.fi).length := hc
    have : (plc N.fi).getD c 0 ∈ plc N.fi := by
      rw [List.getD_eq_getElem?_getD, List.getElem?_eq_getElem hc]
      exact List.getElem_mem _
    exact (plc_mem.mp this).1),
  (fun a q => absurd q (Nat.not_lt_zero _))⟩
noncomputable def Px.co (P : Px) (c d : Nat) : Bool := @decide (c ≠ d ∧ P.tog c d) (Classical.propDecidable _)
theorem Px.co_iff (P : Px) (c d : Nat) : P.co c d = true ↔ (c ≠ d ∧ P.tog c d) := by simp [Px.co]
theorem Px.co_symm (P : Px) (c d : Nat) : P.co c d = P.co d c := by
  apply Bool.eq_iff_iff.mpr
  rw [P.co_iff, P.co_iff]
  exact ⟨fun ⟨a, b⟩ => ⟨fun e => a e.symm, b.symm⟩, fun ⟨a, b⟩ => ⟨fun e => a e.symm, b.symm⟩⟩
noncomputable def Px.chs (N : Net8) (P : Px) (t : Nat) : List (List Nat) := chF (N.pr t) P.pl P.co P.nc 8 (fun _ => true)
def Px.there (P : Px) (t : Nat) (L : List Nat) : Prop := ∃ a, a < P.ne ∧ P.tr a = t ∧ ∀ c, P.tk a c = true ↔ c ∈ L
noncomputable def Px.posT (N : Net8) (P : Px) (t : Nat) : List (Nat × List Nat) := ((P.chs N t).filter (fun L => @decide (¬ P.there t L) (@instDecidableNot _ (Classical.propDecidable _)))).map (fun L => (t, L))
noncomputable def Px.poss (N : Net8) (P : Px) : List (Nat × List Nat) := (List.range N.nz).flatMap (P.posT N)
section POSS
variable {N : Net8} {P : Px}
/-- every transition takes something -/
def NetOk (N : Net8) : Prop := N.nz ≤ 8 ∧ ∀ t, t < N.nz → ∃ p, p < 8 ∧ N.pr t p = true
theorem range8 (pr : Nat → Bool) : ((List.range 8).map (fun i => 8 - 8 + i)).filter pr = plc pr := by
  unfold plc
  rw [show (fun i => 8 - 8 + i) = (id : Nat → Nat) from funext fun i => by simp, List.map_id]
theorem chs_pl {t : Nat} {L : List Nat} (h : L ∈ P.chs N t) : L.map P.pl = plc (N.pr t) := by
  rw [chF_pl (Nat.le_refl 8) h, range8]
theorem pairwise_mem {α : Type} {R : α → α → Prop} {l : List α} (h : l.Pairwise R) (hs : ∀ x y, R x y → R y x) {x y : α} (hx : x ∈ l) (hy : y ∈ l) : x = y ∨ R x y := by
  induction h with
  | nil => cases hx
  | cons h1 _ ih =>
    rcases List.mem_cons.mp hx with ex | hx'
    · rcases List.mem_cons.mp hy with ey | hy'
      · exact Or.inl (ex.trans ey.symm)
      · exact Or.inr (ex ▸ h1 y hy')
    · rcases List.mem_cons.mp hy with ey | hy'
      · exact Or.inr (ey ▸ hs _ _ (h1 x hx'))
      · exact ih hx' hy'
theorem chs_fit (hN : NetOk N) (h : PxOk N P) {t : Nat} (ht : t < N.nz) {L : List Nat} (hL : L ∈ P.chs N t) : Fit N P t L := ⟨(ht),
  (fun x hx => (chF_mem hL x hx).1),
  (fun x hx y hy => by
    rcases pairwise_mem (chF_pair hL) (fun a b q => by rw [P.co_symm]; exact q) hx hy with rfl | q
    · exact h.self x (chF_mem hL x hx).1
    · exact ((P.co_iff x y).mp q).2),
  (fun p => by
    rw [← plc_mem, ← chs_pl hL, List.mem_map]),
  (fun e => by
    obtain ⟨p, hp, q⟩ := hN.2 t ht
    have := chs_pl hL
    rw [e] at this
    have hm : p ∈ plc (N.pr t) := plc_mem.mpr ⟨hp, q⟩
    rw [← this] at hm
    cases hm)⟩
theorem poss_mem {x : Nat × List Nat} : x ∈ P.poss N ↔ (x.1 < N.nz ∧ x.2 ∈ P.chs N x.1 ∧ ¬ P.there x.1 x.2) := by
  unfold Px.poss Px.posT
  rw [List.mem_flatMap]
  constructor
  · rintro ⟨t, ht, hx⟩
    obtain ⟨L, hL, rfl⟩ := List.mem_map.mp hx
    obtain ⟨h1, h2⟩ := List.mem_filter.mp hL
    exact ⟨List.mem_range.mp ht, h1, by simpa using h2⟩
  · rintro ⟨h1, h2, h3⟩
    exact ⟨x.1, List.mem_range.mpr h1, List.mem_map.mpr ⟨x.2, List.mem_filter.mpr ⟨h2, by simpa using h3⟩, rfl⟩⟩
theorem poss_nodup : (P.poss N).Nodup := by
  unfold Px.poss Px.posT
  refine List.pairwise_flatMap.mpr ⟨fun t _ => ?_, ?_⟩
  · exact List.pairwise_map.mpr (((chF_nodup 8).filter _).imp (fun {a b} q e => q (by simpa using e)))
  · refine (List.nodup_range (n := N.nz)).imp (fun {a b} hab x hx y hy e => ?_)
    obtain ⟨L, -, rfl⟩ := List.mem_map.mp hx
    obtain ⟨M, -, rfl⟩ := List.mem_map.mp hy
    simp at e
    exact hab e.1
/-- two choices of one transition with the same members are the same -/
theorem nodup_eq {pl : Nat → Nat} : ∀ {L M : List Nat}, L.map pl = M.map pl → (L.map pl).Nodup → (∀ x, x ∈ L ↔ x ∈ M) → L = M := by
  intro L
  induction L with
  | nil => intro M h _ _; cases M with
    | nil => rfl
    | cons y M => cases h
  | cons x L ih =>
    intro M h hn hm
    cases M with
    | nil => cases h
    | cons y M =>
      rw [List.map_cons, List.map_cons] at h
      injection h with h1 h2
      rw [List.map_cons, List.nodup_cons] at hn
      have hxy : x = y := by
        rcases List.mem_cons.mp ((hm x).mp List.mem_cons_self) with q | q
        · exact q
        · exact absurd (h2 ▸ List.mem_map_of_mem q) hn.1
      subst hxy
      congr 1
      refine ih h2 hn.2 (fun z => ?_)
      constructor
      · intro hz
        rcases List.mem_cons.mp ((hm z).mp (List.mem_cons_of_mem _ hz)) with rfl | q
        · exact absurd (List.mem_map_of_mem hz) hn.1
        · exact q
      · intro hz
        rcases List.mem_cons.mp ((hm z).mpr (List.mem_cons_of_mem _ hz)) with rfl | q
        · exact absurd (h2 ▸ List.mem_map_of_mem hz) hn.1
        · exact q
theorem chs_eq {t : Nat} {L M : List Nat} (hL : L ∈ P.chs N t) (hM : M ∈ P.chs N t) (h : ∀ x, x ∈ L ↔ x ∈ M) : L = M :=
  nodup_eq (pl := P.pl) ((chs_pl hL).trans (chs_pl hM).symm) (by rw [chs_pl hL]; exact plc_nodup _) h
end POSS
