/-! Long.bitCount's term is the number of bits. -/
theorem bs_1 : ((Int32.toInt64 1).toUInt64 &&& Int64.toUInt64 63).toNat % 64 = 1 := by decide
theorem bs_2 : ((Int32.toInt64 2).toUInt64 &&& Int64.toUInt64 63).toNat % 64 = 2 := by decide
theorem bs_4 : ((Int32.toInt64 4).toUInt64 &&& Int64.toUInt64 63).toNat % 64 = 4 := by decide
theorem bs_8 : ((Int32.toInt64 8).toUInt64 &&& Int64.toUInt64 63).toNat % 64 = 8 := by decide
theorem bs_16 : ((Int32.toInt64 16).toUInt64 &&& Int64.toUInt64 63).toNat % 64 = 16 := by decide
theorem bs_32 : ((Int32.toInt64 32).toUInt64 &&& Int64.toUInt64 63).toNat % 64 = 32 := by decide
theorem bk_5 : uN 6148914691236517205 = mk8 85 8 := by decide +kernel
theorem bk_3 : uN 3689348814741910323 = mk8 51 8 := by decide +kernel
theorem bk_f : uN 1085102592571150095 = mk8 15 8 := by decide +kernel
theorem bk_3v : mk8 51 8 = 3689348814741910323 := by decide +kernel
theorem bc1 (x : Int64) : uN (x - ((Int64.toUInt64 x >>> ((Int32.toInt64 1).toUInt64 &&& Int64.toUInt64 63)).toInt64 &&& 6148914691236517205)) = pf1 (mk8 85 8) (uN x) := by
  have e : uN ((Int64.toUInt64 x >>> ((Int32.toInt64 1).toUInt64 &&& Int64.toUInt64 63)).toInt64 &&& 6148914691236517205) = (uN x / 2) &&& mk8 85 8 := by
    rw [uN_and, uN_shr, bs_1, bk_5]
  have hle : (uN x / 2) &&& mk8 85 8 ≤ uN x := Nat.le_trans Nat.and_le_left (Nat.div_le_self _ _)
  rw [uN_sub (by rw [e]; exact hle), e]
  rfl
theorem bc2 (y : Int64) : uN ((y &&& 3689348814741910323) + ((Int64.toUInt64 y >>> ((Int32.toInt64 2).toUInt64 &&& Int64.toUInt64 63)).toInt64 &&& 3689348814741910323)) = pf2 (mk8 51 8) (uN y) ∧ pf2 (mk8 51 8) (uN y) ≤ 7378697629483820646 := by
  have h1 : (uN y &&& mk8 51 8) ≤ 3689348814741910323 := by rw [← bk_3v]; exact Nat.and_le_right
  have h2 : (uN y / 4 &&& mk8 51 8) ≤ 3689348814741910323 := by rw [← bk_3v]; exact Nat.and_le_right
  constructor
  · rw [uN_add, uN_and, uN_and, uN_shr, bs_2, bk_3]
    show ((uN y &&& mk8 51 8) + (uN y / 4 &&& mk8 51 8)) % _ = (uN y &&& mk8 51 8) + (uN y / 4 &&& mk8 51 8)
    exact Nat.mod_eq_of_lt (by omega)
  · show (uN y &&& mk8 51 8) + (uN y / 4 &&& mk8 51 8) ≤ _
    omega
theorem bc3 (z : Int64) (hz : uN z ≤ 7378697629483820646) : uN ((z + (Int64.toUInt64 z >>> ((Int32.toInt64 4).toUInt64 &&& Int64.toUInt64 63)).toInt64) &&& 1085102592571150095) = pf3 (mk8 15 8) (uN z) := by
  rw [uN_and, uN_add, uN_shr, bs_4, bk_f]
  show (uN z + uN z / 16) % _ &&& mk8 15 8 = (uN z + uN z / 16) &&& mk8 15 8
  rw [Nat.mod_eq_of_lt (by omega)]
theorem bc4 (w : Int64) : uN (w + (Int64.toUInt64 w >>> ((Int32.toInt64 8).toUInt64 &&& Int64.toUInt64 63)).toInt64) = (uN w + uN w / 256) % 18446744073709551616 := by rw [uN_add, uN_shr, bs_8]
theorem bc5 (w : Int64) : uN (w + (Int64.toUInt64 w >>> ((Int32.toInt64 16).toUInt64 &&& Int64.toUInt64 63)).toInt64) = (uN w + uN w / 65536) % 18446744073709551616 := by rw [uN_add, uN_shr, bs_16]
theorem bc6 (w : Int64) : uN (w + (Int64.toUInt64 w >>> ((Int32.toInt64 32).toUInt64 &&& Int64.toUInt64 63)).toInt64) = (uN w + uN w / 4294967296) % 18446744073709551616 := by rw [uN_add, uN_shr, bs_32]
theorem bc7 (w : Int64) : Int64.toInt32 w &&& 127 = nI (uN w % 128) := by
  rw [pk_and (Int64.toInt32 w) 7 (by decide)]
  have e : (Int64.toInt32 w).toBitVec.toNat = uN w % 4294967296 := by
    show (w.toBitVec.signExtend 32).toNat = _
    rw [BitVec.signExtend_eq_setWidth_of_le _ (by decide), BitVec.toNat_setWidth]
    rfl
  rw [e]
  congr 1
  omega
theorem pb_le (b : Nat) : pb (b % 2 ^ 8) ≤ 8 := (pb_f (b % 2 ^ 8) (Nat.mod_lt _ (by decide))).2.2.2.1
theorem bc_all {x v1 v2 v3 v4 v5 v6 : Int64} (h1 : uN v1 = pf1 (mk8 85 8) (uN x)) (h2 : uN v2 = pf2 (mk8 51 8) (uN v1)) (h3 : uN v3 = pf3 (mk8 15 8) (uN v2)) (h4 : uN v4 = (uN v3 + uN v3 / 256) % 18446744073709551616) (h5 : uN v5 = (uN v4 + uN v4 / 65536) % 18446744073709551616) (h6 : uN v6 = (uN v5 + uN v5 / 4294967296) % 18446744073709551616) : uN v6 % 128 = pcount x := by
  have hS : uN v3 = sb 8 (uN x) := by rw [h3, h2, h1, s2_eq 8 (uN x) (uN_lt x), sb_eq]
  generalize hn : uN x = n at hS
  have q4 := sum8a (pb_le n) (pb_le (n / 2 ^ 8)) (pb_le (n / 2 ^ 8 / 2 ^ 8)) (pb_le (n / 2 ^ 8 / 2 ^ 8 / 2 ^ 8)) (pb_le (n / 2 ^ 8 / 2 ^ 8 / 2 ^ 8 / 2 ^ 8)) (pb_le (n / 2 ^ 8 / 2 ^ 8 / 2 ^ 8 / 2 ^ 8 / 2 ^ 8)) (pb_le (n / 2 ^ 8 / 2 ^ 8 / 2 ^ 8 / 2 ^ 8 / 2 ^ 8 / 2 ^ 8)) (pb_le (n / 2 ^ 8 / 2 ^ 8 / 2 ^ 8 / 2 ^ 8 / 2 ^ 8 / 2 ^ 8 / 2 ^ 8)) (S := uN v3) (x4 := uN v4) (by rw [hS]; simp only [sb]; clear hS h1 h2 h3 h4 h5 h6; omega) h4
  have q5 := sum8b (pb_le _) (pb_le _) (pb_le _) (pb_le _) (pb_le _) (pb_le _) (pb_le _) (pb_le _) q4 h5
  have q6 := sum8c (pb_le _) (pb_le _) (pb_le _) (pb_le _) (pb_le _) (pb_le _) (pb_le _) (pb_le _) q5 h6
  rw [q6]
  show _ = pN 8 (uN x)
  rw [hn]
  simp only [pN]
  clear q4 q5 q6 hS h1 h2 h3 h4 h5 h6
  omega
