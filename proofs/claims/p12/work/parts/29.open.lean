theorem open_bn {A B : Int64} {k : Nat} (h : (A &&& (B ^^^ (-1))).toBitVec.getLsbD k = true) : B.toBitVec.getLsbD k = false := by
  rw [Int64.toBitVec_and, BitVec.getLsbD_and, neg_bit] at h
  cases hb : B.toBitVec.getLsbD k with
  | false => rfl
  | true => rw [hb] at h; simp at h
