/-! Integer.bitCount's arithmetic. -/
def iN (x : Int32) : Nat := x.toUInt32.toNat
theorem iN_lt (x : Int32) : iN x < 4294967296 := x.toUInt32.toNat_lt
theorem iN_add (x y : Int32) : iN (x + y) = (iN x + iN y) % 4294967296 := by
  show (x.toUInt32 + y.toUInt32).toNat = _
  exact UInt32.toNat_add _ _
theorem iN_shr (x : Int32) (s : UInt32) : iN (x.toUInt32 >>> s).toInt32 = iN x / 2 ^ (s.toNat % 32) := by
  show (x.toUInt32 >>> s).toNat = _
  rw [UInt32.toNat_shiftRight, Nat.shiftRight_eq_div_pow]
  rfl
theorem iN_and (x y : Int32) : iN (x &&& y) = iN x &&& iN y := by
  show (x.toUInt32 &&& y.toUInt32).toNat = _
  exact UInt32.toNat_and _ _
theorem iN_sub {x y : Int32} (h : iN y ≤ iN x) : iN (x - y) = iN x - iN y := by
  show (x.toUInt32 - y.toUInt32).toNat = _
  exact UInt32.toNat_sub_of_le _ _ (UInt32.le_iff_toNat_le.mpr h)
theorem cs_1 : (Int32.toUInt32 1 &&& Int32.toUInt32 31).toNat % 32 = 1 := by decide
theorem cs_2 : (Int32.toUInt32 2 &&& Int32.toUInt32 31).toNat % 32 = 2 := by decide
theorem cs_4 : (Int32.toUInt32 4 &&& Int32.toUInt32 31).toNat % 32 = 4 := by decide
theorem cs_8 : (Int32.toUInt32 8 &&& Int32.toUInt32 31).toNat % 32 = 8 := by decide
theorem cs_16 : (Int32.toUInt32 16 &&& Int32.toUInt32 31).toNat % 32 = 16 := by decide
theorem ck_5 : iN 1431655765 = mk8 85 4 := by decide +kernel
theorem ck_3 : iN 858993459 = mk8 51 4 := by decide +kernel
theorem ck_f : iN 252645135 = mk8 15 4 := by decide +kernel
theorem ck_3v : mk8 51 4 = 858993459 := by decide +kernel
def pc32 (x : Int32) : Nat := pN 4 (iN x)
theorem pc32_cnt (x : Int32) : pc32 x = cnt 32 (fun i => x.toBitVec.getLsbD i) := pN_cnt 4 (iN x)
theorem pc32_le (x : Int32) : pc32 x ≤ 32 := by rw [pc32_cnt]; exact cnt_le _ _
theorem pop32 (x : Int32) : ∀ v1 v2 v3 v4 v5 : Int32, v1 = x - ((Int32.toUInt32 x >>> (Int32.toUInt32 1 &&& Int32.toUInt32 31)).toInt32 &&& 1431655765) → v2 = (v1 &&& 858993459) + ((Int32.toUInt32 v1 >>> (Int32.toUInt32 2 &&& Int32.toUInt32 31)).toInt32 &&& 858993459) →
    v3 = (v2 + (Int32.toUInt32 v2 >>> (Int32.toUInt32 4 &&& Int32.toUInt32 31)).toInt32) &&& 252645135 → v4 = v3 + (Int32.toUInt32 v3 >>> (Int32.toUInt32 8 &&& Int32.toUInt32 31)).toInt32 → v5 = v4 + (Int32.toUInt32 v4 >>> (Int32.toUInt32 16 &&& Int32.toUInt32 31)).toInt32 → v5 &&& 63 = nI (pc32 x) := by
  intro v1 v2 v3 v4 v5 h1 h2 h3 h4 h5
  have e1 : iN v1 = pf1 (mk8 85 4) (iN x) := by
    have e : iN ((Int32.toUInt32 x >>> (Int32.toUInt32 1 &&& Int32.toUInt32 31)).toInt32 &&& 1431655765) = (iN x / 2) &&& mk8 85 4 := by rw [iN_and, iN_shr, cs_1, ck_5]
    have hle : (iN x / 2) &&& mk8 85 4 ≤ iN x := Nat.le_trans Nat.and_le_left (Nat.div_le_self _ _)
    rw [h1, iN_sub (by rw [e]; exact hle), e]
    rfl
  have b1 : (iN v1 &&& mk8 51 4) ≤ 858993459 := by rw [← ck_3v]; exact Nat.and_le_right
  have b2 : (iN v1 / 4 &&& mk8 51 4) ≤ 858993459 := by rw [← ck_3v]; exact Nat.and_le_right
  have e2 : iN v2 = pf2 (mk8 51 4) (iN v1) := by
    rw [h2, iN_add, iN_and, iN_and, iN_shr, cs_2, ck_3]
    show ((iN v1 &&& mk8 51 4) + (iN v1 / 4 &&& mk8 51 4)) % _ = (iN v1 &&& mk8 51 4) + (iN v1 / 4 &&& mk8 51 4)
    exact Nat.mod_eq_of_lt (by omega)
  have b3 : iN v2 ≤ 1717986918 := by rw [e2]; show (iN v1 &&& mk8 51 4) + (iN v1 / 4 &&& mk8 51 4) ≤ _; omega
  have e3 : iN v3 = pf3 (mk8 15 4) (iN v2) := by
    rw [h3, iN_and, iN_add, iN_shr, cs_4, ck_f]
    show (iN v2 + iN v2 / 16) % _ &&& mk8 15 4 = (iN v2 + iN v2 / 16) &&& mk8 15 4
    rw [Nat.mod_eq_of_lt (by omega)]
  have e4 : iN v4 = (iN v3 + iN v3 / 256) % 4294967296 := by rw [h4, iN_add, iN_shr, cs_8]
  have e5 : iN v5 = (iN v4 + iN v4 / 65536) % 4294967296 := by rw [h5, iN_add, iN_shr, cs_16]
  have hS : iN v3 = sb 4 (iN x) := by rw [e3, e2, e1, s2_eq 4 (iN x) (iN_lt x), sb_eq]
  have e6 : v5 &&& 63 = nI (iN v5 % 64) := pk_and v5 6 (by decide)
  rw [e6]
  congr 1
  show _ = pN 4 (iN x)
  have q0 := pb_le (iN x)
  have q1 := pb_le (iN x / 2 ^ 8)
  have q2 := pb_le (iN x / 2 ^ 8 / 2 ^ 8)
  have q3 := pb_le (iN x / 2 ^ 8 / 2 ^ 8 / 2 ^ 8)
  simp only [sb] at hS
  simp only [pN]
  generalize pb (iN x % 2 ^ 8) = a0 at *
  generalize pb (iN x / 2 ^ 8 % 2 ^ 8) = a1 at *
  generalize pb (iN x / 2 ^ 8 / 2 ^ 8 % 2 ^ 8) = a2 at *
  generalize pb (iN x / 2 ^ 8 / 2 ^ 8 / 2 ^ 8 % 2 ^ 8) = a3 at *
  clear e1 e2 e3 e6 b1 b2 b3 h1 h2 h3 h4 h5
  have f3 : iN v3 / 256 = a1 + 256 * a2 + 65536 * a3 := by omega
  have f4 : iN v4 = (a0 + a1) + 256 * (a1 + a2) + 65536 * (a2 + a3) + 16777216 * a3 := by
    rw [e4, f3, Nat.mod_eq_of_lt (by omega)]; omega
  have f5 : iN v4 / 65536 = (a2 + a3) + 256 * a3 := by omega
  have f6 : iN v5 = iN v4 + iN v4 / 65536 := by rw [e5, Nat.mod_eq_of_lt (by omega)]
  rw [f6, f5, f4]
  omega
