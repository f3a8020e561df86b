/-! How many bits a long has: Long.bitCount's own arithmetic. uN, uN_lt, uN_add, uN_shr are the kit's (laws/BITS.to-paste). -/
def uN (x : Int64) : Nat := x.toUInt64.toNat
theorem uN_lt (x : Int64) : uN x < 18446744073709551616 := x.toUInt64.toNat_lt
theorem uN_add (x y : Int64) : uN (x + y) = (uN x + uN y) % 18446744073709551616 := by
  show (x.toUInt64 + y.toUInt64).toNat = _
  exact UInt64.toNat_add _ _
theorem uN_shr (x : Int64) (s : UInt64) : uN (x.toUInt64 >>> s).toInt64 = uN x / 2 ^ (s.toNat % 64) := by
  show (x.toUInt64 >>> s).toNat = _
  rw [UInt64.toNat_shiftRight, Nat.shiftRight_eq_div_pow]
  rfl
theorem uN_and (x y : Int64) : uN (x &&& y) = uN x &&& uN y := by
  show (x.toUInt64 &&& y.toUInt64).toNat = _
  exact UInt64.toNat_and _ _
theorem uN_sub {x y : Int64} (h : uN y ≤ uN x) : uN (x - y) = uN x - uN y := by
  show (x.toUInt64 - y.toUInt64).toNat = _
  exact UInt64.toNat_sub_of_le _ _ (UInt64.le_iff_toNat_le.mpr h)
theorem and_split {a b M c : Nat} (hb : b < 2 ^ 8) (hc : c < 2 ^ 8) : (2 ^ 8 * a + b) &&& (2 ^ 8 * M + c) = 2 ^ 8 * (a &&& M) + (b &&& c) := by
  apply Nat.eq_of_testBit_eq
  intro j
  rw [Nat.testBit_and, Nat.testBit_two_pow_mul_add _ hb, Nat.testBit_two_pow_mul_add _ hc, Nat.testBit_two_pow_mul_add _ (Nat.lt_of_le_of_lt Nat.and_le_left hb)]
  split <;> simp [Nat.testBit_and]
def mk8 (c : Nat) : Nat → Nat
  | 0 => 0
  | j + 1 => 2 ^ 8 * mk8 c j + c
def pf1 (c n : Nat) : Nat := n - ((n / 2) &&& c)
def pf2 (c n : Nat) : Nat := (n &&& c) + ((n / 4) &&& c)
def pf3 (c n : Nat) : Nat := (n + n / 16) &&& c
def pg2 (b : Nat) : Nat := pf2 51 (pf1 85 b)
def pb (b : Nat) : Nat := ((List.range 8).filter (fun i => b.testBit i)).length
theorem pb_f : ∀ b, b < 256 → pf3 15 (pg2 b) = pb b ∧ pg2 b % 16 ≤ 4 ∧ pg2 b ≤ 68 ∧ pb b ≤ 8 ∧ pf1 85 b < 256 := by decide +kernel
theorem pm1 : ∀ q, q < 2 → ∀ l, l < 256 → (128 * q + l / 2) &&& 85 = (l / 2) &&& 85 := by decide +kernel
theorem pm2 : ∀ q, q < 4 → ∀ l, l < 256 → (64 * q + l / 4) &&& 51 = (l / 4) &&& 51 := by decide +kernel
theorem pm3 : ∀ q, q < 5 → ∀ l, l < 69 → (l + (16 * q + l / 16)) &&& 15 = (l + l / 16) &&& 15 := by decide +kernel
theorem pf1_s {h l M : Nat} (hl : l < 256) : pf1 (2 ^ 8 * M + 85) (2 ^ 8 * h + l) = 2 ^ 8 * pf1 M h + pf1 85 l := by
  unfold pf1
  have e : (2 ^ 8 * h + l) / 2 = 2 ^ 8 * (h / 2) + (128 * (h % 2) + l / 2) := by omega
  rw [e, and_split (by omega) (by omega), pm1 _ (by omega) l hl]
  have h1 : (h / 2 &&& M) ≤ h / 2 := Nat.and_le_left
  have h2 : (l / 2 &&& 85) ≤ l / 2 := Nat.and_le_left
  omega
theorem pf2_s {h l M : Nat} (hl : l < 256) : pf2 (2 ^ 8 * M + 51) (2 ^ 8 * h + l) = 2 ^ 8 * pf2 M h + pf2 51 l := by
  unfold pf2
  have e : (2 ^ 8 * h + l) / 4 = 2 ^ 8 * (h / 4) + (64 * (h % 4) + l / 4) := by omega
  rw [e, and_split (by omega) (by omega), and_split (by omega) (by omega), pm2 _ (by omega) l hl]
  omega
theorem pf3_s {h l M : Nat} (hl : l < 69) (hh : h % 16 ≤ 4) : pf3 (2 ^ 8 * M + 15) (2 ^ 8 * h + l) = 2 ^ 8 * pf3 M h + pf3 15 l := by
  unfold pf3
  have e : (2 ^ 8 * h + l) + (2 ^ 8 * h + l) / 16 = 2 ^ 8 * (h + h / 16) + (l + (16 * (h % 16) + l / 16)) := by omega
  rw [e, and_split (by omega) (by omega), pm3 _ (by omega) l hl]
/-- the bytes' counts side by side -/
def s2 : Nat → Nat → Nat
  | 0, _ => 0
  | j + 1, n => 2 ^ 8 * s2 j (n / 2 ^ 8) + pg2 (n % 2 ^ 8)
def sb : Nat → Nat → Nat
  | 0, _ => 0
  | j + 1, n => 2 ^ 8 * sb j (n / 2 ^ 8) + pb (n % 2 ^ 8)
theorem s2_eq : ∀ (j n : Nat), n < (2 ^ 8) ^ j → pf2 (mk8 51 j) (pf1 (mk8 85 j) n) = s2 j n
  | 0, n, h => by
    have : n = 0 := by simpa using h
    subst this
    rfl
  | j + 1, n, h => by
    have hd : n = 2 ^ 8 * (n / 2 ^ 8) + n % 2 ^ 8 := (Nat.div_add_mod n (2 ^ 8)).symm
    have hm : n % 2 ^ 8 < 256 := Nat.mod_lt _ (by decide)
    have hq : n / 2 ^ 8 < (2 ^ 8) ^ j := Nat.div_lt_of_lt_mul (by rw [Nat.pow_succ, Nat.mul_comm] at h; exact h)
    show pf2 (2 ^ 8 * mk8 51 j + 51) (pf1 (2 ^ 8 * mk8 85 j + 85) n) = 2 ^ 8 * s2 j (n / 2 ^ 8) + pg2 (n % 2 ^ 8)
    rw [← s2_eq j _ hq]
    conv => lhs; rw [hd]
    rw [pf1_s hm, pf2_s (pb_f _ hm).2.2.2.2]
    rfl
theorem s2_mod (j n : Nat) : s2 j n % 16 ≤ 4 := by
  cases j with
  | zero => simp [s2]
  | succ j =>
    have := (pb_f (n % 2 ^ 8) (Nat.mod_lt _ (by decide))).2.1
    show (2 ^ 8 * s2 j (n / 2 ^ 8) + pg2 (n % 2 ^ 8)) % 16 ≤ 4
    omega
theorem sb_eq : ∀ (j n : Nat), pf3 (mk8 15 j) (s2 j n) = sb j n
  | 0, n => by simp [pf3, mk8, s2, sb]
  | j + 1, n => by
    have hb := pb_f (n % 2 ^ 8) (Nat.mod_lt _ (by decide))
    show pf3 (2 ^ 8 * mk8 15 j + 15) (2 ^ 8 * s2 j (n / 2 ^ 8) + pg2 (n % 2 ^ 8)) = 2 ^ 8 * sb j (n / 2 ^ 8) + pb (n % 2 ^ 8)
    rw [pf3_s (by omega) (s2_mod j _), sb_eq j, hb.1]
/-- the number of bits -/
def pN : Nat → Nat → Nat
  | 0, _ => 0
  | j + 1, n => pN j (n / 2 ^ 8) + pb (n % 2 ^ 8)
theorem dvk {k a R : Nat} (h : a < k) : (a + k * R) / k = R := by
  rw [Nat.add_mul_div_left _ _ (Nat.lt_of_le_of_lt (Nat.zero_le _) h), Nat.div_eq_of_lt h, Nat.zero_add]
section S8
variable {a b c d e f g h S x4 x5 x6 : Nat}
theorem sum8a (ha : a ≤ 8) (hb : b ≤ 8) (hc : c ≤ 8) (hd : d ≤ 8) (he : e ≤ 8) (hf : f ≤ 8) (hg : g ≤ 8) (hh : h ≤ 8) (hS : S = a + 256 * (b + 256 * (c + 256 * (d + 256 * (e + 256 * (f + 256 * (g + 256 * h))))))) (h4 : x4 = (S + S / 256) % 18446744073709551616) :
    x4 = ((a + b) + 256 * (b + c)) + 65536 * ((c + d) + 256 * (d + e) + 65536 * ((e + f) + 256 * (f + g) + 65536 * ((g + h) + 256 * h))) := by
  have e1 : S / 256 = b + 256 * (c + 256 * (d + 256 * (e + 256 * (f + 256 * (g + 256 * h))))) := by rw [hS]; exact dvk (by omega)
  rw [h4, e1, hS]
  rw [Nat.mod_eq_of_lt (by omega)]
  omega
theorem sum8b (ha : a ≤ 8) (hb : b ≤ 8) (hc : c ≤ 8) (hd : d ≤ 8) (he : e ≤ 8) (hf : f ≤ 8) (hg : g ≤ 8) (hh : h ≤ 8) (h4 : x4 = ((a + b) + 256 * (b + c)) + 65536 * ((c + d) + 256 * (d + e) + 65536 * ((e + f) + 256 * (f + g) + 65536 * ((g + h) + 256 * h)))) (h5 : x5 = (x4 + x4 / 65536) % 18446744073709551616) :
    x5 = ((a + b + c + d) + 256 * (b + c + d + e) + 65536 * (c + d + e + f) + 16777216 * (d + e + f + g)) + 4294967296 * ((e + f + g + h) + 256 * (f + g + h) + 65536 * (g + h) + 16777216 * h) := by
  have e1 : x4 / 65536 = (c + d) + 256 * (d + e) + 65536 * ((e + f) + 256 * (f + g) + 65536 * ((g + h) + 256 * h)) := by rw [h4]; exact dvk (by omega)
  rw [h5, e1, h4]
  rw [Nat.mod_eq_of_lt (by omega)]
  omega
theorem sum8c (ha : a ≤ 8) (hb : b ≤ 8) (hc : c ≤ 8) (hd : d ≤ 8) (he : e ≤ 8) (hf : f ≤ 8) (hg : g ≤ 8) (hh : h ≤ 8) (h5 : x5 = ((a + b + c + d) + 256 * (b + c + d + e) + 65536 * (c + d + e + f) + 16777216 * (d + e + f + g)) + 4294967296 * ((e + f + g + h) + 256 * (f + g + h) + 65536 * (g + h) + 16777216 * h)) (h6 : x6 = (x5 + x5 / 4294967296) % 18446744073709551616) :
    x6 % 128 = a + b + c + d + e + f + g + h := by
  have e1 : x5 / 4294967296 = (e + f + g + h) + 256 * (f + g + h) + 65536 * (g + h) + 16777216 * h := by rw [h5]; exact dvk (by omega)
  have e2 : x5 + x5 / 4294967296 = (a + b + c + d + e + f + g + h) + 128 * (2 * (b + c + d + e + f + g + h) + 512 * (c + d + e + f + g + h) + 131072 * (d + e + f + g + h) + 33554432 * ((e + f + g + h) + 256 * (f + g + h) + 65536 * (g + h) + 16777216 * h)) := by rw [e1, h5]; omega
  have hb2 : x5 + x5 / 4294967296 < 18446744073709551616 := by rw [e2]; clear e1 e2 h5 h6; omega
  rw [h6, Nat.mod_eq_of_lt hb2, e2, Nat.add_mul_mod_self_left]
  exact Nat.mod_eq_of_lt (by clear hb2 e1 e2 h5 h6; omega)
end S8
def pcount (x : Int64) : Nat := pN 8 (uN x)
