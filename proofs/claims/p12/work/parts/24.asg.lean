theorem asg_y {y n : Int64} {v : Nat} (hv : v < 38) : ∀ i, ((y ||| (1 <<< (Int32.toInt64 (nI v) &&& 63))) ||| n).toBitVec.getLsbD i = true ↔ ((y ||| n).toBitVec.getLsbD i = true ∨ i = v) := fun i => by
  simp only [Int64.toBitVec_or, BitVec.getLsbD_or, Bool.or_eq_true]
  rw [bitb hv i]
  exact or_right_comm
theorem asg_n {y n : Int64} {v : Nat} (hv : v < 38) : ∀ i, (y ||| (n ||| (1 <<< (Int32.toInt64 (nI v) &&& 63)))).toBitVec.getLsbD i = true ↔ ((y ||| n).toBitVec.getLsbD i = true ∨ i = v) := fun i => by
  simp only [Int64.toBitVec_or, BitVec.getLsbD_or, Bool.or_eq_true]
  rw [bitb hv i]
  exact or_assoc.symm
