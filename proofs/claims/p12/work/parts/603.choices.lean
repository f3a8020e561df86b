/-! The choices of a transition: for each of its places a condition, all of them beside each other. -/
def chF (pr : Nat → Bool) (pl : Nat → Nat) (co : Nat → Nat → Bool) (nc : Nat) : Nat → (Nat → Bool) → List (List Nat)
  | 0, _ => [[]]
  | r + 1, op => if pr (7 - r) = true then ((List.range nc).filter (fun c => op c && (pl c == 7 - r))).flatMap (fun c => (chF pr pl co nc r (fun d => op d && co c d)).map (c :: ·)) else chF pr pl co nc r op
theorem fm_congr {α β : Type} {l : List α} {f g : α → List β} (h : ∀ x ∈ l, f x = g x) : l.flatMap f = l.flatMap g := by
  induction l with
  | nil => rfl
  | cons x l ih => rw [List.flatMap_cons, List.flatMap_cons, h x List.mem_cons_self, ih (fun y hy => h y (List.mem_cons_of_mem _ hy))]
section CH
variable {pr : Nat → Bool} {pl : Nat → Nat} {co co' : Nat → Nat → Bool} {nc nc' : Nat}
theorem chF_congr {op op' : Nat → Bool} (r : Nat) (h : ∀ d, d < nc → op d = op' d) : chF pr pl co nc r op = chF pr pl co nc r op' := by
  induction r generalizing op op' with
  | zero => rfl
  | succ r ih =>
    simp only [chF]
    split
    · have e : (List.range nc).filter (fun c => op c && (pl c == 7 - r)) = (List.range nc).filter (fun c => op' c && (pl c == 7 - r)) :=
        List.filter_congr fun c hc => by rw [h c (List.mem_range.mp hc)]
      rw [e]
      congr 1
      funext c
      rw [ih (fun d hd => by rw [h d hd])]
    · exact ih h
/-- every member may be taken, is below nc, and so on -/
theorem chF_mem {op : Nat → Bool} {r : Nat} {L : List Nat} (h : L ∈ chF pr pl co nc r op) : ∀ d ∈ L, d < nc ∧ op d = true := by
  induction r generalizing op L with
  | zero => simp only [chF, List.mem_singleton] at h; subst h; intro d hd; cases hd
  | succ r ih =>
    simp only [chF] at h
    split at h
    · obtain ⟨c, hc, h⟩ := List.mem_flatMap.mp h
      obtain ⟨M, hM, rfl⟩ := List.mem_map.mp h
      have hc' := List.mem_filter.mp hc
      simp only [Bool.and_eq_true] at hc'
      intro d hd
      rcases List.mem_cons.mp hd with rfl | hd
      · exact ⟨List.mem_range.mp hc'.1, hc'.2.1⟩
      · have := ih hM d hd
        simp only [Bool.and_eq_true] at this
        exact ⟨this.1, this.2.1⟩
    · exact ih h
theorem chF_pair {op : Nat → Bool} {r : Nat} {L : List Nat} (h : L ∈ chF pr pl co nc r op) : L.Pairwise (fun c d => co c d = true) := by
  induction r generalizing op L with
  | zero => simp only [chF, List.mem_singleton] at h; subst h; exact List.Pairwise.nil
  | succ r ih =>
    simp only [chF] at h
    split at h
    · obtain ⟨c, hc, h⟩ := List.mem_flatMap.mp h
      obtain ⟨M, hM, rfl⟩ := List.mem_map.mp h
      refine List.Pairwise.cons (fun d hd => ?_) (ih hM)
      have := (chF_mem hM d hd).2
      simp only [Bool.and_eq_true] at this
      exact this.2
    · exact ih h
/-- the places of what is chosen are the transition's -/
theorem chF_pl {op : Nat → Bool} {r : Nat} {L : List Nat} (hr : r ≤ 8) (h : L ∈ chF pr pl co nc r op) : L.map pl = ((List.range r).map (fun i => 8 - r + i)).filter pr := by
  induction r generalizing op L with
  | zero => simp only [chF, List.mem_singleton] at h; subst h; rfl
  | succ r ih =>
    have e : (List.range (r + 1)).map (fun i => 8 - (r + 1) + i) = (7 - r) :: (List.range r).map (fun i => 8 - r + i) := by
      rw [List.range_succ_eq_map, List.map_cons, List.map_map]
      refine congr (congrArg List.cons (by omega)) ?_
      apply List.map_congr_left
      intro i hi
      simp only [Function.comp]
      omega
    rw [e]
    simp only [chF] at h
    split at h
    · rename_i hp
      obtain ⟨c, hc, h⟩ := List.mem_flatMap.mp h
      obtain ⟨M, hM, rfl⟩ := List.mem_map.mp h
      have hc' := List.mem_filter.mp hc
      simp only [Bool.and_eq_true, beq_iff_eq] at hc'
      rw [List.filter_cons_of_pos hp, List.map_cons, ih (by omega) hM, hc'.2.2]
    · rename_i hp
      rw [List.filter_cons_of_neg (by simpa using hp)]
      exact ih (by omega) h
/-- without the new conditions the choices are the old ones -/
theorem chF_old (hn : nc ≤ nc') (hco : ∀ c d, c < nc → d < nc → co' c d = co c d) (r : Nat) (op : Nat → Bool) :
    (chF pr pl co' nc' r op).filter (fun L => L.all (fun d => decide (d < nc))) = chF pr pl co nc r op := by
  induction r generalizing op with
  | zero => rfl
  | succ r ih =>
    simp only [chF]
    split
    · rw [List.filter_flatMap]
      have key : ∀ c, (((chF pr pl co' nc' r (fun d => op d && co' c d)).map (c :: ·)).filter (fun L => L.all (fun d => decide (d < nc)))) = if c < nc then (chF pr pl co nc r (fun d => op d && co c d)).map (c :: ·) else [] := by
        intro c
        rw [List.filter_map]
        split
        · rename_i hc
          have e : ((fun L : List Nat => L.all (fun d => decide (d < nc))) ∘ (c :: ·)) = (fun L : List Nat => L.all (fun d => decide (d < nc))) := by
            funext L; simp [hc]
          rw [e, ih]
          congr 1
          exact chF_congr r (fun d hd => by rw [hco c d hc hd])
        · rename_i hc
          have e : ((fun L : List Nat => L.all (fun d => decide (d < nc))) ∘ (c :: ·)) = (fun _ : List Nat => false) := by
            funext L; simp [hc]
          rw [e]; simp
      have e2 : (fun c => ((chF pr pl co' nc' r (fun d => op d && co' c d)).map (c :: ·)).filter (fun L => L.all (fun d => decide (d < nc)))) = fun c => if c < nc then (chF pr pl co nc r (fun d => op d && co c d)).map (c :: ·) else [] := funext key
      rw [e2]
      clear key e2
      have split : List.range nc' = List.range nc ++ (List.range (nc' - nc)).map (fun i => nc + i) := by
        have := List.range_add (n := nc) (m := nc' - nc)
        rw [← this]; congr 1; omega
      rw [split, List.filter_append, List.flatMap_append]
      have z : (((List.range (nc' - nc)).map (fun i => nc + i)).filter (fun c => op c && (pl c == 7 - r))).flatMap (fun c => if c < nc then (chF pr pl co nc r (fun d => op d && co c d)).map (c :: ·) else []) = [] := by
        apply List.flatMap_eq_nil_iff.mpr
        intro c hc
        obtain ⟨i, -, rfl⟩ := List.mem_map.mp (List.mem_filter.mp hc).1
        rw [if_neg (by omega)]
      rw [z, List.append_nil]
      exact fm_congr (fun c hc => by rw [if_pos (List.mem_range.mp (List.mem_filter.mp hc).1)])
    · exact ih op
end CH
