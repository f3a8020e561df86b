section CH2
variable {pr : Nat → Bool} {pl : Nat → Nat} {co : Nat → Nat → Bool} {nc : Nat}
theorem fm_filter {α β : Type} (l : List α) (p : α → Bool) (f : α → List β) : (l.filter p).flatMap f = l.flatMap (fun x => if p x = true then f x else []) := by
  induction l with
  | nil => rfl
  | cons x l ih =>
    by_cases h : p x = true
    · rw [List.filter_cons_of_pos h, List.flatMap_cons, List.flatMap_cons, ih, if_pos h]
    · rw [List.filter_cons_of_neg h, List.flatMap_cons, ih, if_neg h, List.nil_append]
/-- a choice with something new in it lies within what is beside the new -/
theorem chF_fresh {fr fo : Nat → Bool} (hsym : ∀ c d, co c d = co d c) (h1 : ∀ c, fr c = true → fo c = true) (h2 : ∀ c d, fr c = true → co c d = true → fo d = true) (r : Nat) (op : Nat → Bool) :
    (chF pr pl co nc r op).filter (fun L => L.any fr) = (chF pr pl co nc r (fun d => op d && fo d)).filter (fun L => L.any fr) := by
  induction r generalizing op with
  | zero => rfl
  | succ r ih =>
    simp only [chF]
    split
    · rw [List.filter_flatMap, List.filter_flatMap, fm_filter, fm_filter]
      apply fm_congr
      intro c _
      by_cases hop : op c = true
      · by_cases hpl : (pl c == 7 - r) = true
        · simp only [hop, hpl, Bool.true_and, Bool.and_true, if_true]
          by_cases hf : fr c = true
          · rw [if_pos (h1 c hf)]
            congr 2
            exact chF_congr r (fun d _ => by
              cases hc : co c d with
              | false => simp
              | true => simp [h2 c d hf hc])
          · rw [List.filter_map, List.filter_map]
            have e : ((fun L : List Nat => L.any fr) ∘ (c :: ·)) = (fun L : List Nat => L.any fr) := by
              funext L; simp [Bool.eq_false_iff.mpr hf]
            rw [e, ih]
            by_cases hfo : fo c = true
            · rw [if_pos hfo]
              congr 2
              exact chF_congr r (fun d _ => by cases op d <;> cases co c d <;> cases fo d <;> rfl)
            · rw [if_neg hfo]
              rw [← ih]
              have : (chF pr pl co nc r (fun d => op d && co c d)).filter (fun L => L.any fr) = [] := by
                apply List.filter_eq_nil_iff.mpr
                intro L hL hany
                obtain ⟨x, hx, hfx⟩ := List.any_eq_true.mp hany
                have hm := (chF_mem hL x hx).2
                simp only [Bool.and_eq_true] at hm
                exact hfo (h2 x c hfx (by rw [hsym]; exact hm.2))
              rw [this]; rfl
        · simp [hpl]
      · simp [hop]
    · exact ih op
/-- the choices without anything new, and those with something new -/
theorem perm_split {α : Type} (l : List α) (p : α → Bool) : l.Perm (l.filter p ++ l.filter (fun x => !p x)) := by
  induction l with
  | nil => exact List.Perm.nil
  | cons x l ih =>
    by_cases h : p x = true
    · simp only [h, List.filter_cons_of_pos, Bool.not_true, Bool.false_eq_true, not_false_eq_true, List.filter_cons_of_neg, List.cons_append]
      exact ih.cons x
    · simp only [h, List.filter_cons_of_neg, Bool.not_eq_true]
      rw [List.filter_cons_of_pos (by simp [h])]
      exact (ih.cons x).trans (List.perm_middle.symm)
theorem chF_nodup {op : Nat → Bool} (r : Nat) : (chF pr pl co nc r op).Nodup := by
  induction r generalizing op with
  | zero => simp [chF]
  | succ r ih =>
    simp only [chF]
    split
    · refine List.pairwise_flatMap.mpr ⟨fun c _ => ?_, ?_⟩
      · exact List.pairwise_map.mpr ((ih (op := fun d => op d && co c d)).imp (fun {a b} h e => h (by simpa using e)))
      · have : ((List.range nc).filter (fun c => op c && (pl c == 7 - r))).Pairwise (· ≠ ·) := (List.nodup_range).filter _
        refine this.imp (fun {a b} hab => ?_)
        intro L h1 L' h2 e
        obtain ⟨M, -, rfl⟩ := List.mem_map.mp h1
        obtain ⟨M', -, rfl⟩ := List.mem_map.mp h2
        simp at e
        exact hab e.1
    · exact ih
end CH2
