/-! The search's state: its beginning; a level less. -/
theorem SeI.begin {sa : Nat → Int64} (h : ∀ j, j < 39 → sa j = 0) : SeI 0 0 0 0 sa := by
  refine ⟨fun _ => 99, ⟨fun v hv => Or.inr rfl, fun k hk i => ?_, fun i => ?_, ?_, by omega⟩, fun t ht => by omega, by omega⟩
  · rw [h k hk]
    simp
    omega
  · simp
  · have : cnt 38 (fun _ => decide (99 ≤ 0)) = 0 := by decide
    exact this.symm
theorem neg_bit (x : Int64) (i : Nat) : (x ^^^ (-1)).toBitVec.getLsbD i = (decide (i < 64) && !x.toBitVec.getLsbD i) := by
  rw [Int64.toBitVec_xor]
  show (x.toBitVec ^^^ BitVec.allOnes 64).getLsbD i = _
  rw [BitVec.getLsbD_xor, BitVec.getLsbD_allOnes]
  by_cases h : i < 64
  · simp [h]
  · simp [h, BitVec.getLsbD_of_ge _ _ (by omega : 64 ≤ i)]
theorem SeI.down {yes no : Int64} {k ts : Nat} {sa : Nat → Int64} (h : SeI yes no (k + 1) ts sa) :
    SeI (yes &&& (sa (k + 1) ^^^ (-1))) (no &&& (sa (k + 1) ^^^ (-1))) k (ts - pcount (sa (k + 1))) (vp_updL sa (k + 1) 0) ∧ pcount (sa (k + 1)) ≤ ts := by
  obtain ⟨lev, ⟨h1, h2, h3, h4, h5⟩, hT, hL⟩ := h
  have hp : pcount (sa (k + 1)) = cnt 38 (fun v => decide (lev v = k + 1)) := pcount_38 fun i => by rw [h2 (k + 1) (by omega) i]; simp
  have hs : cnt 38 (fun v => decide (lev v ≤ k + 1)) = cnt 38 (fun v => decide (lev v ≤ k)) + cnt 38 (fun v => decide (lev v = k + 1)) := cnt_add fun w hw => by
    simp only [decide_eq_true_eq]
    omega
  have hd : ts - pcount (sa (k + 1)) = cnt 38 (fun v => decide (lev v ≤ k)) := by omega
  refine ⟨⟨fun w => if lev w = k + 1 then 99 else lev w, ⟨fun w hw => ?_, fun j hj i => ?_, fun i => ?_, ?_, by omega⟩, fun t ht => ?_, ?_⟩, by omega⟩
  · by_cases e : lev w = k + 1
    · simp [e]
    · rcases h1 w hw with q | q
      · simp only [e, if_false]; omega
      · simp only [e, if_false]; omega
  · by_cases e : j = k + 1
    · subst e
      have e0 : vp_updL sa (k + 1) 0 (k + 1) = 0 := by simp [vp_updL]
      rw [e0]
      by_cases q : lev i = k + 1
      · simp [q]; omega
      · simp [q]
    · have e0 : vp_updL sa (k + 1) 0 j = sa j := by simp [vp_updL, e]
      rw [e0, h2 j hj i]
      by_cases q : lev i = k + 1
      · simp only [q, if_true]; omega
      · simp only [q, if_false]
  · have hq := h2 (k + 1) (by omega) i
    have hy := h3 i
    rw [Int64.toBitVec_or, BitVec.getLsbD_or, Bool.or_eq_true] at hy
    rw [Int64.toBitVec_or, BitVec.getLsbD_or, Int64.toBitVec_and, Int64.toBitVec_and, BitVec.getLsbD_and, BitVec.getLsbD_and, neg_bit]
    by_cases q : lev i = k + 1
    · by_cases hi : i < 38
      · have : (sa (k + 1)).toBitVec.getLsbD i = true := hq.mpr ⟨hi, q⟩
        simp [this, q]
      · have hn : ¬ (yes.toBitVec.getLsbD i = true ∨ no.toBitVec.getLsbD i = true) := fun z => hi (hy.mp z).1
        have n1 : yes.toBitVec.getLsbD i = false := by cases z : yes.toBitVec.getLsbD i <;> simp_all
        have n2 : no.toBitVec.getLsbD i = false := by cases z : no.toBitVec.getLsbD i <;> simp_all
        simp [n1, n2, hi]
    · have : (sa (k + 1)).toBitVec.getLsbD i = false := by
        cases z : (sa (k + 1)).toBitVec.getLsbD i with
        | false => rfl
        | true => exact absurd (hq.mp z).2 q
      simp only [this, q, if_false]
      by_cases h64 : i < 64
      · simp only [h64, decide_true, Bool.not_false, Bool.and_true, Bool.or_eq_true]
        exact hy
      · have hi : ¬ i < 38 := by omega
        simp [h64, hi]
  · rw [hd]
    exact cnt_congr fun w hw => by
      by_cases e : lev w = k + 1
      · simp [e]; omega
      · simp [e]
  · refine Nat.le_trans (hT t (by omega)) (Nat.le_of_eq (cnt_congr fun w hw => ?_))
    by_cases e : lev w = k + 1
    · simp [e]; omega
    · simp [e]
  · rw [hd]
    exact hT k (by omega)
