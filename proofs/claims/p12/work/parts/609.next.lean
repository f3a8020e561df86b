/-! What may come next, behind one event more. -/
theorem chF_congr_pl {pr : Nat → Bool} {pl pl' : Nat → Nat} {co : Nat → Nat → Bool} {nc : Nat} (h : ∀ c, c < nc → pl c = pl' c) (r : Nat) (op : Nat → Bool) : chF pr pl co nc r op = chF pr pl' co nc r op := by
  induction r generalizing op with
  | zero => rfl
  | succ r ih =>
    simp only [chF]
    split
    · have e : (List.range nc).filter (fun c => op c && (pl c == 7 - r)) = (List.range nc).filter (fun c => op c && (pl' c == 7 - r)) :=
        List.filter_congr fun c hc => by rw [h c (List.mem_range.mp hc)]
      rw [e]
      congr 1
      funext c
      rw [ih]
    · exact ih op
theorem fm_append_perm {α β : Type} (l : List α) (f g : α → List β) : (l.flatMap (fun x => f x ++ g x)).Perm (l.flatMap f ++ l.flatMap g) := by
  induction l with
  | nil => exact List.Perm.nil
  | cons x l ih =>
    rw [List.flatMap_cons, List.flatMap_cons, List.flatMap_cons]
    have h1 : (f x ++ g x ++ l.flatMap (fun x => f x ++ g x)).Perm (f x ++ g x ++ (l.flatMap f ++ l.flatMap g)) := ih.append_left _
    refine h1.trans ?_
    rw [List.append_assoc, List.append_assoc]
    refine List.Perm.append_left _ ?_
    rw [← List.append_assoc, ← List.append_assoc]
    exact List.Perm.append_right _ List.perm_append_comm
theorem fm_perm {α β : Type} {l : List α} {f g : α → List β} (h : ∀ x ∈ l, (f x).Perm (g x)) : (l.flatMap f).Perm (l.flatMap g) := by
  induction l with
  | nil => exact List.Perm.nil
  | cons x l ih =>
    rw [List.flatMap_cons, List.flatMap_cons]
    exact (h x List.mem_cons_self).append (ih (fun y hy => h y (List.mem_cons_of_mem _ hy)))
section NEXT
variable {N : Net8} {P : Px} {t0 : Nat} {L0 ps : List Nat} {k : Bool} {mv : Nat → Bool} {rv : Nat}
def freshB (a b : Nat) (c : Nat) : Bool := decide (a ≤ c ∧ c < b)
/-- beside all that is taken, or new -/
noncomputable def Px.fromB (P : Px) (L0 : List Nat) (c : Nat) : Bool := @decide (P.nc ≤ c ∨ ∀ x, x ∈ L0 → x ≠ c ∧ P.tog x c) (Classical.propDecidable _)
theorem ext_nc_le : P.nc ≤ (P.ext t0 L0 k ps mv rv).nc := Nat.le_add_right _ _
theorem ext_chs_old (h : PxOk N P) (t : Nat) : ((P.ext t0 L0 k ps mv rv).chs N t).filter (fun L => L.all (fun d => decide (d < P.nc))) = P.chs N t := by
  have := chF_old (pr := N.pr t) (pl := (P.ext t0 L0 k ps mv rv).pl) (co := P.co) (co' := (P.ext t0 L0 k ps mv rv).co) (ext_nc_le (P := P) (t0 := t0) (L0 := L0) (k := k) (ps := ps) (mv := mv) (rv := rv))
    (fun c d hc hd => by
      apply Bool.eq_iff_iff.mpr
      rw [Px.co_iff, Px.co_iff, ext_tog_old h hc hd]) 8 (fun _ => true)
  refine this.trans (chF_congr_pl (fun c hc => ?_) 8 _)
  show (if c < P.nc then _ else _) = _
  rw [if_pos hc]
theorem ext_chs_fresh (h : PxOk N P) (hF : Fit N P t0 L0) (t : Nat) : ((P.ext t0 L0 k ps mv rv).chs N t).filter (fun L => L.any (freshB P.nc (P.ext t0 L0 k ps mv rv).nc)) =
    (chF (N.pr t) (P.ext t0 L0 k ps mv rv).pl (P.ext t0 L0 k ps mv rv).co (P.ext t0 L0 k ps mv rv).nc 8 (P.fromB L0)).filter (fun L => L.any (freshB P.nc (P.ext t0 L0 k ps mv rv).nc)) := by
  have := chF_fresh (pr := N.pr t) (pl := (P.ext t0 L0 k ps mv rv).pl) (co := (P.ext t0 L0 k ps mv rv).co) (nc := (P.ext t0 L0 k ps mv rv).nc) (fr := freshB P.nc (P.ext t0 L0 k ps mv rv).nc) (fo := P.fromB L0) (Px.co_symm _)
    (fun c hc => by simp only [freshB, decide_eq_true_eq] at hc; simp [Px.fromB, hc.1])
    (fun c d hc hcd => by
      simp only [freshB, decide_eq_true_eq] at hc
      simp only [Px.fromB, decide_eq_true_eq]
      by_cases hd : P.nc ≤ d
      · exact Or.inl hd
      · refine Or.inr ?_
        cases hk : k with
        | true =>
          have : (P.ext t0 L0 k ps mv rv).nc = P.nc := by show P.nc + (if k = true then 0 else ps.length) = _; rw [hk]; rfl
          omega
        | false =>
          have : (P.ext t0 L0 k ps mv rv).nc = P.nc + ps.length := by show P.nc + (if k = true then 0 else ps.length) = _; rw [hk]; rfl
          exact (ext_tog_new h hF hk hc.1 (by omega) (by omega)).mp ((Px.co_iff _ c d).mp hcd).2) 8 (fun _ => true)
  refine this.trans ?_
  rfl
theorem ext_there_old (h : PxOk N P) {t : Nat} {L : List Nat} (h0 : L0 ∈ P.chs N t0) (hL : L ∈ P.chs N t) : (P.ext t0 L0 k ps mv rv).there t L ↔ (P.there t L ∨ (t, L) = (t0, L0)) := by
  have tknew : ∀ c, (P.ext t0 L0 k ps mv rv).tk P.ne c = true ↔ c ∈ L0 := fun c => by
    show (if P.ne < P.ne then _ else _) = true ↔ _
    rw [if_neg (Nat.lt_irrefl _)]; simp
  constructor
  · rintro ⟨a, ha, htr, htk⟩
    have ha : a < P.ne + 1 := ha
    by_cases hn : a < P.ne
    · refine Or.inl ⟨a, hn, ?_, fun c => ?_⟩
      · have : (if a < P.ne then P.tr a else t0) = t := htr
        rwa [if_pos hn] at this
      · rw [← htk c]
        show _ ↔ (if a < P.ne then P.tk a c else _) = true
        rw [if_pos hn]
    · have e : a = P.ne := by omega
      subst e
      have htr : (if P.ne < P.ne then P.tr P.ne else t0) = t := htr
      rw [if_neg (Nat.lt_irrefl _)] at htr
      subst htr
      refine Or.inr ?_
      rw [chs_eq hL h0 (fun x => (htk x).symm.trans (tknew x))]
  · rintro (⟨a, ha, htr, htk⟩ | e)
    · refine ⟨a, Nat.lt_succ_of_lt ha, ?_, fun c => ?_⟩
      · show (if a < P.ne then P.tr a else t0) = t; rw [if_pos ha]; exact htr
      · rw [← htk c]; show (if a < P.ne then P.tk a c else _) = true ↔ _; rw [if_pos ha]
    · cases e
      refine ⟨P.ne, Nat.lt_succ_self _, ?_, tknew⟩
      show (if P.ne < P.ne then P.tr P.ne else t0) = t0; rw [if_neg (Nat.lt_irrefl _)]
theorem ext_there_new (h : PxOk N P) (hF : Fit N P t0 L0) {t x : Nat} {L : List Nat} (hx : x ∈ L) (hn : P.nc ≤ x) : ¬ (P.ext t0 L0 k ps mv rv).there t L := by
  rintro ⟨a, -, -, htk⟩
  rcases (ext_tk h a x).mp ((htk x).mpr hx) with q | ⟨-, q⟩
  · have := (h.tkd a x q).2; omega
  · have := hF.dom x q; omega
noncomputable def Px.freshL (N : Net8) (P : Px) (t0 : Nat) (L0 : List Nat) (k : Bool) (ps : List Nat) (mv : Nat → Bool) (rv : Nat) : List (Nat × List Nat) :=
  (List.range N.nz).flatMap (fun t => ((chF (N.pr t) (P.ext t0 L0 k ps mv rv).pl (P.ext t0 L0 k ps mv rv).co (P.ext t0 L0 k ps mv rv).nc 8 (P.fromB L0)).filter (fun L => L.any (freshB P.nc (P.ext t0 L0 k ps mv rv).nc))).map (fun L => (t, L)))
theorem ext_poss (h : PxOk N P) (hF : Fit N P t0 L0) (h0 : L0 ∈ P.chs N t0) : ((P.ext t0 L0 k ps mv rv).poss N).Perm ((P.poss N).filter (fun x => decide (x ≠ (t0, L0))) ++ P.freshL N t0 L0 k ps mv rv) := by
  classical
  have step : ∀ t, t ∈ List.range N.nz → ((P.ext t0 L0 k ps mv rv).posT N t).Perm (((P.posT N t).filter (fun x => decide (x ≠ (t0, L0)))) ++ ((chF (N.pr t) (P.ext t0 L0 k ps mv rv).pl (P.ext t0 L0 k ps mv rv).co (P.ext t0 L0 k ps mv rv).nc 8 (P.fromB L0)).filter (fun L => L.any (freshB P.nc (P.ext t0 L0 k ps mv rv).nc))).map (fun L => (t, L))) := by
    intro t _
    rw [← ext_chs_fresh h hF t]
    unfold Px.posT
    rw [List.filter_map, ← List.map_append]
    refine List.Perm.map _ ?_
    have p1 := perm_split ((P.ext t0 L0 k ps mv rv).chs N t) (fun L => L.all (fun d => decide (d < P.nc)))
    rw [ext_chs_old h t] at p1
    have p2 := p1.filter (fun L => decide (¬ (P.ext t0 L0 k ps mv rv).there t L))
    rw [List.filter_append] at p2
    refine p2.trans ?_
    have e1 : (P.chs N t).filter (fun L => decide (¬ (P.ext t0 L0 k ps mv rv).there t L)) = ((P.chs N t).filter (fun L => decide (¬ P.there t L))).filter ((fun x => decide (x ≠ (t0, L0))) ∘ (fun L => (t, L))) := by
      rw [List.filter_filter]
      refine List.filter_congr (fun L hL => ?_)
      apply Bool.eq_iff_iff.mpr
      simp only [decide_eq_true_eq, Bool.and_eq_true, Function.comp]
      rw [ext_there_old h h0 hL]
      exact ⟨fun q => ⟨fun e => q (Or.inr e), fun e => q (Or.inl e)⟩, fun ⟨q1, q2⟩ e => e.elim q2 q1⟩
    have e2 : ((((P.ext t0 L0 k ps mv rv).chs N t).filter (fun x => !(x.all (fun d => decide (d < P.nc))))).filter (fun L => decide (¬ (P.ext t0 L0 k ps mv rv).there t L))) = ((P.ext t0 L0 k ps mv rv).chs N t).filter (fun L => L.any (freshB P.nc (P.ext t0 L0 k ps mv rv).nc)) := by
      rw [List.filter_filter]
      refine List.filter_congr (fun L hL => ?_)
      apply Bool.eq_iff_iff.mpr
      simp only [Bool.and_eq_true, decide_eq_true_eq, Bool.not_eq_true', List.any_eq_true]
      constructor
      · rintro ⟨-, q⟩
        rw [List.all_eq_false] at q
        obtain ⟨x, hx, q⟩ := q
        refine ⟨x, hx, ?_⟩
        have := (chF_mem hL x hx).1
        simp only [freshB, decide_eq_true_eq] at q ⊢
        omega
      · rintro ⟨x, hx, q⟩
        simp only [freshB, decide_eq_true_eq] at q
        refine ⟨ext_there_new h hF hx q.1, ?_⟩
        rw [List.all_eq_false]
        exact ⟨x, hx, by simp; omega⟩
    rw [e1, e2]
  have := fm_perm step
  refine this.trans ((fm_append_perm _ _ _).trans ?_)
  rw [← List.filter_flatMap]
  exact List.Perm.refl _
end NEXT
