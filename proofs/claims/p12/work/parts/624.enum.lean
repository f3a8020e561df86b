/-! The reference's walk through the choices. -/
section ENUM
variable {pl : Nat → Nat} {co : Nat → Nat → Bool} {nc : Nat}
def chP (pl : Nat → Nat) (co : Nat → Nat → Bool) (nc : Nat) : List Nat → (Nat → Bool) → List (List Nat)
  | [], _ => [[]]
  | p :: ps, op => ((List.range nc).filter (fun c => op c && (pl c == p))).flatMap (fun c => (chP pl co nc ps (fun d => op d && co c d)).map (c :: ·))
theorem chF_chP {pr : Nat → Bool} (r : Nat) (hr : r ≤ 8) (op : Nat → Bool) : chF pr pl co nc r op = chP pl co nc (((List.range r).map (fun i => 8 - r + i)).filter pr) op := by
  induction r generalizing op with
  | zero => rfl
  | succ r ih =>
    have e : (List.range (r + 1)).map (fun i => 8 - (r + 1) + i) = (7 - r) :: (List.range r).map (fun i => 8 - r + i) := by
      rw [List.range_succ_eq_map, List.map_cons, List.map_map]
      refine congr (congrArg List.cons (by omega)) ?_
      apply List.map_congr_left
      intro i hi
      simp only [Function.comp]
      omega
    rw [e]
    simp only [chF]
    split
    · rename_i hp
      rw [List.filter_cons_of_pos hp]
      simp only [chP]
      exact fm_congr fun c _ => by rw [ih (by omega)]
    · rename_i hp
      rw [List.filter_cons_of_neg (by simpa using hp)]
      exact ih (by omega) op
def tlP (pl : Nat → Nat) (co : Nat → Nat → Bool) (nc p : Nat) (ps : List Nat) (op : Nat → Bool) (s : Nat) : List (List Nat) := ((List.range nc).filter (fun c => decide (s ≤ c) && (op c && (pl c == p)))).flatMap (fun c => (chP pl co nc ps (fun d => op d && co c d)).map (c :: ·))
theorem tl_all {p : Nat} {ps : List Nat} {op : Nat → Bool} : tlP pl co nc p ps op 0 = chP pl co nc (p :: ps) op := by
  unfold tlP
  simp [chP]
theorem tl_none {p s : Nat} {ps : List Nat} {op : Nat → Bool} (h : ∀ d, s ≤ d → d < nc → ¬ (op d = true ∧ pl d = p)) : tlP pl co nc p ps op s = [] := by
  unfold tlP
  have : (List.range nc).filter (fun c => decide (s ≤ c) && (op c && (pl c == p))) = [] := by
    apply List.filter_eq_nil_iff.mpr
    intro d hd q
    simp only [Bool.and_eq_true, decide_eq_true_eq, beq_iff_eq] at q
    exact h d q.1 (List.mem_range.mp hd) q.2
  rw [this]; rfl
theorem filt_next {A : Nat → Bool} {s d n : Nat} (hs : s ≤ d) (hA : A d = true) (hl : ∀ z, s ≤ z → z < d → A z = false) : (List.range n).filter (fun c => decide (s ≤ c) && A c) = if d < n then d :: (List.range n).filter (fun c => decide (d + 1 ≤ c) && A c) else [] := by
  induction n with
  | zero => rfl
  | succ n ih =>
    rw [List.range_succ, List.filter_append, ih]
    rcases Nat.lt_trichotomy n d with h | h | h
    · rw [if_neg (by omega), if_neg (by omega), List.nil_append]
      by_cases hsn : s ≤ n
      · rw [List.filter_cons_of_neg (by simp [hl n hsn h])]; rfl
      · rw [List.filter_cons_of_neg (by simp; omega)]; rfl
    · subst h
      rw [if_neg (by omega), if_pos (by omega), List.nil_append, List.filter_cons_of_pos (by simp [hs, hA])]
      have : (List.range n ++ [n]).filter (fun c => decide (n + 1 ≤ c) && A c) = [] := by
        apply List.filter_eq_nil_iff.mpr
        intro z hz q
        simp only [Bool.and_eq_true, decide_eq_true_eq] at q
        rcases List.mem_append.mp hz with r | r
        · have := List.mem_range.mp r; omega
        · have := List.mem_singleton.mp r; omega
      rw [this]; rfl
    · rw [if_pos (by omega), if_pos (by omega), List.cons_append, List.filter_append]
      congr 2
      by_cases hAn : A n = true
      · rw [List.filter_cons_of_pos (by simp [hAn]; omega), List.filter_cons_of_pos (by simp [hAn]; omega)]
        rfl
      · rw [List.filter_cons_of_neg (by simp [hAn]), List.filter_cons_of_neg (by simp [hAn])]
        rfl
theorem tl_next {p s d : Nat} {ps : List Nat} {op : Nat → Bool} (hd : d < nc) (hs : s ≤ d) (ho : op d = true ∧ pl d = p) (hl : ∀ z, s ≤ z → z < d → ¬ (op z = true ∧ pl z = p)) : tlP pl co nc p ps op s = (chP pl co nc ps (fun z => op z && co d z)).map (d :: ·) ++ tlP pl co nc p ps op (d + 1) := by
  unfold tlP
  rw [filt_next (A := fun c => op c && (pl c == p)) hs (by simp [ho.1, ho.2]) (fun z h1 h2 => by
    have := hl z h1 h2
    cases e1 : op z with
    | false => rfl
    | true =>
      cases e2 : (pl z == p) with
      | false => rfl
      | true => exact absurd ⟨e1, by simpa using e2⟩ this), if_pos hd, List.flatMap_cons]
def remP (pl : Nat → Nat) (co : Nat → Nat → Bool) (nc : Nat) : List Nat → (Nat → Bool) → List Nat → Nat → List (List Nat)
  | [], _, _, _ => []
  | p :: ps, op, [], s => tlP pl co nc p ps op s
  | p :: ps, op, c :: C, s => (remP pl co nc ps (fun d => op d && co c d) C s).map (c :: ·) ++ tlP pl co nc p ps op (c + 1)
def opC (co : Nat → Nat → Bool) (op : Nat → Bool) (C : List Nat) (d : Nat) : Bool := op d && C.all (fun z => co z d)
theorem opC_cons {op : Nat → Bool} {c : Nat} {C : List Nat} (d : Nat) : opC co (fun d => op d && co c d) C d = opC co op (c :: C) d := by
  unfold opC; rw [List.all_cons, Bool.and_assoc]
/-- nothing is left at the last level: one level back -/
theorem rem_pop {c s : Nat} : ∀ {ps C : List Nat} {op : Nat → Bool} (hk : C.length + 1 < ps.length), (∀ d, s ≤ d → d < nc → ¬ (opC co op (C ++ [c]) d = true ∧ pl d = ps[C.length + 1]'hk)) → remP pl co nc ps op (C ++ [c]) s = remP pl co nc ps op C (c + 1)
  | [], _, _, hk, _ => absurd hk (Nat.not_lt_zero _)
  | [_], _, _, hk, _ => absurd hk (by simp)
  | p :: q :: ps, [], op, hk, h => by
    show (tlP pl co nc q ps (fun d => op d && co c d) s).map (c :: ·) ++ _ = _
    rw [tl_none (p := q) (ps := ps) (op := fun d => op d && co c d) (fun d h1 h2 r => h d h1 h2 ⟨by rw [List.nil_append, ← opC_cons]; unfold opC; simpa using r.1, r.2⟩)]
    rfl
  | p :: ps, z :: C, op, hk, h => by
    show (remP pl co nc ps (fun d => op d && co z d) (C ++ [c]) s).map (z :: ·) ++ _ = (remP pl co nc ps (fun d => op d && co z d) C (c + 1)).map (z :: ·) ++ _
    rw [rem_pop (ps := ps) (C := C) (by simpa using hk) (fun d h1 h2 r => h d h1 h2 ⟨by rw [List.cons_append, ← opC_cons]; exact r.1, r.2⟩)]
theorem rem_end {s : Nat} {p : Nat} {ps : List Nat} {op : Nat → Bool} (h : ∀ d, s ≤ d → d < nc → ¬ (opC co op [] d = true ∧ pl d = p)) : remP pl co nc (p :: ps) op [] s = [] :=
  tl_none fun d h1 h2 r => h d h1 h2 ⟨by unfold opC; simpa using r.1, r.2⟩
/-- a whole choice is found -/
theorem rem_last {s d : Nat} (hd : d < nc) (hs : s ≤ d) : ∀ {ps C : List Nat} {op : Nat → Bool} (hk : C.length + 1 = ps.length), (opC co op C d = true ∧ pl d = ps[C.length]'(by omega)) → (∀ z, s ≤ z → z < d → ¬ (opC co op C z = true ∧ pl z = ps[C.length]'(by omega))) → remP pl co nc ps op C s = (C ++ [d]) :: remP pl co nc ps op C (d + 1)
  | [], _, _, hk, _, _ => absurd hk (by simp)
  | [p], [], op, _, ho, hl => by
    show tlP pl co nc p [] op s = _
    rw [tl_next (p := p) (ps := []) (op := op) hd hs ⟨by have := ho.1; unfold opC at this; simpa using this, ho.2⟩ (fun z h1 h2 r => hl z h1 h2 ⟨by unfold opC; simpa using r.1, r.2⟩)]
    rfl
  | _ :: _ :: _, [], _, hk, _, _ => absurd hk (by simp)
  | p :: ps, c :: C, op, hk, ho, hl => by
    show (remP pl co nc ps (fun d => op d && co c d) C s).map (c :: ·) ++ _ = _ :: ((remP pl co nc ps (fun d => op d && co c d) C (d + 1)).map (c :: ·) ++ _)
    rw [rem_last hd hs (ps := ps) (C := C) (op := fun d => op d && co c d) (by simpa using hk) ⟨by rw [opC_cons]; exact ho.1, ho.2⟩ (fun z h1 h2 r => hl z h1 h2 ⟨by rw [← opC_cons]; exact r.1, r.2⟩)]
    rfl
/-- one level on -/
theorem rem_push {s d : Nat} (hd : d < nc) (hs : s ≤ d) : ∀ {ps C : List Nat} {op : Nat → Bool} (hk : C.length + 1 < ps.length), (opC co op C d = true ∧ pl d = ps[C.length]'(by omega)) → (∀ z, s ≤ z → z < d → ¬ (opC co op C z = true ∧ pl z = ps[C.length]'(by omega))) → remP pl co nc ps op C s = remP pl co nc ps op (C ++ [d]) 0
  | [], _, _, hk, _, _ => absurd hk (Nat.not_lt_zero _)
  | [_], _, _, hk, _, _ => absurd hk (by simp)
  | p :: q :: ps, [], op, hk, ho, hl => by
    show tlP pl co nc p (q :: ps) op s = (tlP pl co nc q ps (fun z => op z && co d z) 0).map (d :: ·) ++ tlP pl co nc p (q :: ps) op (d + 1)
    rw [tl_next (p := p) (ps := q :: ps) (op := op) hd hs ⟨by have := ho.1; unfold opC at this; simpa using this, ho.2⟩ (fun z h1 h2 r => hl z h1 h2 ⟨by unfold opC; simpa using r.1, r.2⟩), tl_all]
  | p :: ps, c :: C, op, hk, ho, hl => by
    show (remP pl co nc ps (fun d => op d && co c d) C s).map (c :: ·) ++ _ = (remP pl co nc ps (fun d => op d && co c d) (C ++ [d]) 0).map (c :: ·) ++ _
    rw [rem_push hd hs (ps := ps) (C := C) (op := fun d => op d && co c d) (by simpa using hk) ⟨by rw [opC_cons]; exact ho.1, ho.2⟩ (fun z h1 h2 r => hl z h1 h2 ⟨by rw [← opC_cons]; exact r.1, r.2⟩)]
theorem rem_all {p : Nat} {ps : List Nat} {op : Nat → Bool} : remP pl co nc (p :: ps) op [] 0 = chP pl co nc (p :: ps) op := tl_all
end ENUM
/-- what the search has found so far -/
def FsI (acc : List Ent) (mps : Int32) (mlr : Int64) (mlt mlm : Nat) (gle : Nat → Int32) (rk : Ent → Nat) : Prop := mps = nI acc.length ∧ (acc ≠ [] → ∃ b, (b ∈ acc ∧ ∀ y, y ∈ acc → y = b ∨ befR rk b y) ∧ mlr = lN (rk b + 2 ^ 40) ∧ mlt = b.1 ∧ mlm = b.2.length ∧ ChI gle b.2)
section FSI
variable {acc : List Ent} {mps : Int32} {mlr : Int64} {mlt mlm : Nat} {gle g1 : Nat → Int32} {rk : Ent → Nat} {x : Ent}
theorem FsI.first (h : ¬ acc ≠ []) (hc : ChI g1 x.2) : FsI (acc ++ [x]) (nI (acc.length + 1)) (lN (rk x + 2 ^ 40)) x.1 x.2.length g1 rk := by
  have e : acc = [] := Classical.byContradiction fun q => h q
  subst e
  exact ⟨rfl, fun _ => ⟨x, ⟨List.mem_cons_self, fun y hy => Or.inl (List.mem_singleton.mp hy)⟩, rfl, rfl, rfl, hc⟩⟩
theorem FsI.less (h : FsI acc mps mlr mlt mlm gle rk) (hn : acc ≠ []) (hr : rk x < 2 ^ 60) (hb : ∀ y ∈ acc, rk y < 2 ^ 60) (hl : lN (rk x + 2 ^ 40) < mlr) (hc : ChI g1 x.2) : FsI (acc ++ [x]) (nI (acc.length + 1)) (lN (rk x + 2 ^ 40)) x.1 x.2.length g1 rk := by
  obtain ⟨b, ⟨b1, b2⟩, b3, -⟩ := h.2 hn
  have hb60 := hb b b1
  rw [b3, lN_lt63 (by omega) (by omega)] at hl
  refine ⟨by rw [List.length_append]; rfl, fun _ => ⟨x, ⟨List.mem_append_right _ List.mem_cons_self, fun y hy => ?_⟩, rfl, rfl, rfl, hc⟩⟩
  rcases List.mem_append.mp hy with q | q
  · rcases b2 y q with rfl | (r | ⟨r, -⟩)
    · exact Or.inr (Or.inl (by omega))
    · exact Or.inr (Or.inl (by omega))
    · exact Or.inr (Or.inl (by omega))
  · exact Or.inl (List.mem_singleton.mp q)
theorem FsI.keep (h : FsI acc mps mlr mlt mlm gle rk) (hn : acc ≠ []) (hr : rk x < 2 ^ 60) (hb : ∀ y ∈ acc, rk y < 2 ^ 60) (hl : ¬ lN (rk x + 2 ^ 40) < mlr) (ho : ∀ y ∈ acc, ltx y x) : FsI (acc ++ [x]) (nI (acc.length + 1)) mlr mlt mlm gle rk := by
  obtain ⟨b, ⟨b1, b2⟩, b3, b4⟩ := h.2 hn
  have hb60 := hb b b1
  rw [b3, lN_lt63 (by omega) (by omega)] at hl
  refine ⟨by rw [List.length_append]; rfl, fun _ => ⟨b, ⟨List.mem_append_left _ b1, fun y hy => ?_⟩, b3, b4⟩⟩
  rcases List.mem_append.mp hy with q | q
  · exact b2 y q
  · have e := List.mem_singleton.mp q
    subst e
    by_cases z : rk b < rk y
    · exact Or.inr (Or.inl z)
    · exact Or.inr (Or.inr ⟨by omega, ho b b1⟩)
end FSI
theorem po_get {n i k : Nat} (hn : n < 256) (hi : i < 8) (hb : ¬ bN n i = 0) (hk : bC n i = k) : (psN n).getD k 0 = i := by
  subst hk
  refine psN_get n hn i hi (Classical.byContradiction fun q => hb ?_)
  exact bN_0 q
theorem fd_cp {L : List Nat} {g : Nat → Int32} {i : Nat} {hi : i < L.length} (h : ∀ q (h : q < L.length), q < i → g q = nI (L[q]) ∧ L[q] < 60) (hl : L[i] < 60) : ∀ q (h : q < L.length), q < i + 1 → upd g i (nI (L[i])) q = nI (L[q]) ∧ L[q] < 60 := fun q hq h1 => by
  by_cases e : q = i
  · subst e; rw [upd_at]; exact ⟨rfl, hl⟩
  · rw [upd_ne e]; exact h q hq (by omega)
