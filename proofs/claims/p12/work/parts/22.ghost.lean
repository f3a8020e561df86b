/-! The search's state: each variable's level (99: not set). -/
def SeJ (lev : Nat → Nat) (yes no : Int64) (lvl ts : Nat) (sa : Nat → Int64) : Prop :=
  (∀ v, v < 38 → lev v ≤ lvl ∨ lev v = 99) ∧ (∀ k, k < 39 → ∀ i, (sa k).toBitVec.getLsbD i = true ↔ (i < 38 ∧ lev i = k)) ∧ (∀ i, (yes ||| no).toBitVec.getLsbD i = true ↔ (i < 38 ∧ lev i ≠ 99)) ∧ ts = cnt 38 (fun v => decide (lev v ≤ lvl)) ∧ lvl ≤ 38
def SeT (lev : Nat → Nat) (lvl : Nat) : Prop := ∀ t, t < lvl → t ≤ cnt 38 (fun v => decide (lev v ≤ t))
def SeI (yes no : Int64) (lvl ts : Nat) (sa : Nat → Int64) : Prop := ∃ lev, SeJ lev yes no lvl ts sa ∧ SeT lev lvl ∧ lvl ≤ ts
def SeW (yes no : Int64) (lvl ts : Nat) (sa : Nat → Int64) : Prop := ∃ lev, SeJ lev yes no lvl ts sa ∧ SeT lev lvl ∧ lvl ≤ ts + 1
theorem SeI.weak {yes no : Int64} {lvl ts : Nat} {sa : Nat → Int64} (h : SeI yes no lvl ts sa) : SeW yes no lvl ts sa := by
  obtain ⟨lev, h1, h2, h3⟩ := h
  exact ⟨lev, h1, h2, by omega⟩
theorem SeI.bounds {yes no : Int64} {lvl ts : Nat} {sa : Nat → Int64} (h : SeI yes no lvl ts sa) : lvl ≤ 38 ∧ ts ≤ 38 ∧ M38 (yes ||| no) := by
  obtain ⟨lev, ⟨h1, h2, h3, h4, h5⟩, -, -⟩ := h
  refine ⟨h5, by rw [h4]; exact cnt_le _ _, fun i hi => ?_⟩
  cases hx : (yes ||| no).toBitVec.getLsbD i with
  | false => rfl
  | true => exact absurd ((h3 i).mp hx).1 (by omega)
theorem bitb {v : Nat} (hv : v < 38) (i : Nat) : ((1 : Int64) <<< (Int32.toInt64 (nI v) &&& 63)).toBitVec.getLsbD i = true ↔ i = v := by
  rw [bit_eq v hv]
  show (BitVec.ofNat 64 (2 ^ v)).getLsbD i = true ↔ _
  rw [BitVec.getLsbD_ofNat, Nat.testBit_two_pow]
  simp only [Bool.and_eq_true, decide_eq_true_eq]
  omega
theorem SeW.assign {yes no yes' no' : Int64} {lvl ts v : Nat} {sa : Nat → Int64} (h : SeW yes no lvl ts sa) (hv : v < 38) (hn : (yes ||| no).toBitVec.getLsbD v = false) (hY : ∀ i, (yes' ||| no').toBitVec.getLsbD i = true ↔ ((yes ||| no).toBitVec.getLsbD i = true ∨ i = v)) :
    SeI yes' no' lvl (ts + 1) (vp_updL sa lvl (sa lvl ||| (1 <<< (Int32.toInt64 (nI v) &&& 63)))) ∧ ts < 38 := by
  obtain ⟨lev, ⟨h1, h2, h3, h4, h5⟩, hT, hL⟩ := h
  have h99 : lev v = 99 := by
    apply Classical.byContradiction
    intro q
    have := (h3 v).mpr ⟨hv, q⟩
    rw [hn] at this
    cases this
  have hts : ts < 38 := by
    rw [h4]
    exact cnt_lt hv (by simp [h99]; omega)
  refine ⟨⟨fun w => if w = v then lvl else lev w, ⟨fun w hw => ?_, fun k hk i => ?_, fun i => ?_, ?_, h5⟩, fun t ht => ?_, ?_⟩, hts⟩
  · by_cases e : w = v
    · simp [e]
    · simp [e]; exact h1 w hw
  · by_cases ek : k = lvl
    · subst ek
      have : (vp_updL sa k (sa k ||| (1 <<< (Int32.toInt64 (nI v) &&& 63))) k) = sa k ||| (1 <<< (Int32.toInt64 (nI v) &&& 63)) := by simp [vp_updL]
      rw [this, Int64.toBitVec_or, BitVec.getLsbD_or, Bool.or_eq_true, h2 k hk i, bitb hv i]
      by_cases e : i = v
      · subst e; simp [hv]
      · simp [e]
    · have : (vp_updL sa lvl (sa lvl ||| (1 <<< (Int32.toInt64 (nI v) &&& 63))) k) = sa k := by simp [vp_updL, ek]
      rw [this, h2 k hk i]
      by_cases e : i = v
      · subst e
        simp [h99]
        omega
      · simp [e]
  · rw [hY i, h3 i]
    by_cases e : i = v
    · subst e
      simp [hv]
      omega
    · simp [e]
  · rw [h4]
    exact (cnt_upd hv (by simp [h99]; omega) (by simp) (fun w hw e => by simp [e])).symm
  · refine Nat.le_trans (hT t ht) (Nat.le_of_eq (cnt_congr fun w hw => ?_))
    by_cases e : w = v
    · subst e
      simp [h99]
      omega
    · simp [e]
  · omega
/-- a level more -/
theorem SeI.up {yes no : Int64} {lvl ts : Nat} {sa : Nat → Int64} (h : SeI yes no lvl ts sa) (hl : lvl < 38) : SeW yes no (lvl + 1) ts sa := by
  obtain ⟨lev, ⟨h1, h2, h3, h4, h5⟩, hT, hL⟩ := h
  refine ⟨lev, ⟨fun v hv => (h1 v hv).imp (fun q => by omega) id, h2, h3, ?_, by omega⟩, fun t ht => ?_, by omega⟩
  · rw [h4]
    exact cnt_congr fun w hw => by
      rcases h1 w hw with q | q
      · simp; omega
      · simp [q]; omega
  · by_cases e : t = lvl
    · subst e
      rw [← h4]
      exact hL
    · exact hT t (by omega)
