/-! Bits of longs. ts_bit, wb_c, wb_cu are the kit's own (laws/BITS.to-paste). -/
theorem ts_bit {w : Int64} {s : UInt64} {j : Nat} (hj : j < 64) (hs : s.toNat = j) : ((w.toUInt64 >>> s).toInt64 &&& 1) = 0 ↔ w.toBitVec.getLsbD j = false := by
  have e : (w.toUInt64 >>> s).toInt64.toBitVec = w.toBitVec >>> j := by
    apply BitVec.eq_of_toNat_eq
    show (w.toUInt64 >>> s).toNat = _
    rw [UInt64.toNat_shiftRight, hs, Nat.mod_eq_of_lt hj, BitVec.toNat_ushiftRight]
    rfl
  rw [← Int64.toBitVec_inj, Int64.toBitVec_and, e]
  show w.toBitVec >>> j &&& 1#64 = 0#64 ↔ _
  constructor
  · intro h
    have t := congrArg (fun x => x.getLsbD 0) h
    simpa using t
  · intro h
    apply BitVec.eq_of_getLsbD_eq
    intro i hi
    cases i with
    | zero => simp [h]
    | succ i => simp
theorem wb_cu : ∀ k, k < 64 → ((nI k).toInt64.toUInt64 &&& Int64.toUInt64 63) = UInt64.ofNat k := by decide +kernel
theorem wb_c : ∀ k, k < 64 → ((nI k).toInt64 &&& 63) = lN k := by decide +kernel
theorem wb_sm : ∀ k, k < 64 → ((lN k).toBitVec.smod 64).toNat = k := by decide +kernel
/-- whether k is in the set x, as the programs say it -/
def hasv (x : Int64) (k : Nat) : Int32 := if x.toBitVec.getLsbD k = true then 1 else 0
theorem hasv_01 (x : Int64) (k : Nat) : hasv x k = 0 ∨ hasv x k = 1 := by unfold hasv; split <;> simp
theorem hasv_0 {x : Int64} {k : Nat} (h : hasv x k = 0) : x.toBitVec.getLsbD k = false := by
  unfold hasv at h
  split at h
  · exact absurd h (by decide)
  · rename_i h2; simpa using h2
theorem hasv_1 {x : Int64} {k : Nat} (h : ¬ hasv x k = 0) : x.toBitVec.getLsbD k = true := by
  unfold hasv at h
  split at h
  · assumption
  · exact absurd rfl h
theorem hs_u {x : Int64} {k : Nat} (hk : k < 64) : lg_cmp ((Int64.toUInt64 x >>> ((Int32.toInt64 (nI k)).toUInt64 &&& Int64.toUInt64 63)).toInt64 &&& 1) 0 = 0 ↔ x.toBitVec.getLsbD k = false := by
  rw [lg_cmp_eq, wb_cu k hk]
  exact ts_bit hk (by simp; omega)
theorem hs_u0 {x : Int64} {k : Nat} (hk : k < 64) (h : lg_cmp ((Int64.toUInt64 x >>> ((Int32.toInt64 (nI k)).toUInt64 &&& Int64.toUInt64 63)).toInt64 &&& 1) 0 = 0) : 0 = hasv x k := by
  simp [hasv, (hs_u hk).mp h]
theorem hs_u1 {x : Int64} {k : Nat} (hk : k < 64) (h : ¬ lg_cmp ((Int64.toUInt64 x >>> ((Int32.toInt64 (nI k)).toUInt64 &&& Int64.toUInt64 63)).toInt64 &&& 1) 0 = 0) : 1 = hasv x k := by
  rw [hs_u hk] at h
  simp [hasv, h]
theorem hs_s {x : Int64} {k : Nat} (hk : k < 64) : lg_cmp ((x >>> (Int32.toInt64 (nI k) &&& 63)) &&& 1) 1 = 0 ↔ x.toBitVec.getLsbD k = true := by
  rw [lg_cmp_eq, wb_c k hk, ← Int64.toBitVec_inj, Int64.toBitVec_and, Int64.toBitVec_shiftRight]
  show (x.toBitVec.sshiftRight ((lN k).toBitVec.smod 64).toNat) &&& 1#64 = 1#64 ↔ _
  rw [wb_sm k hk]
  have e0 : (x.toBitVec.sshiftRight k).getLsbD 0 = x.toBitVec.getLsbD k := by
    rw [BitVec.getLsbD_sshiftRight]
    simp [hk]
  constructor
  · intro h
    have t := congrArg (fun y => y.getLsbD 0) h
    have t2 : (x.toBitVec.sshiftRight k).getLsbD 0 = true := by simpa using t
    rw [e0] at t2
    exact t2
  · intro h
    apply BitVec.eq_of_getLsbD_eq
    intro i hi
    cases i with
    | zero => simp [e0, h]
    | succ i => simp
theorem hs_s1 {x : Int64} {k : Nat} (hk : k < 64) (h : lg_cmp ((x >>> (Int32.toInt64 (nI k) &&& 63)) &&& 1) 1 = 0) : 1 = hasv x k := by
  simp [hasv, (hs_s hk).mp h]
theorem hs_s0 {x : Int64} {k : Nat} (hk : k < 64) (h : ¬ lg_cmp ((x >>> (Int32.toInt64 (nI k) &&& 63)) &&& 1) 1 = 0) : 0 = hasv x k := by
  rw [hs_s hk] at h
  simp [hasv, h]
def isMv (m : Int32) : Int32 := if m < 0 then 0 else if 255 < m then 0 else 1
theorem isMv_ok {m : Int32} (h : ¬ isMv m = 0) : ∃ n, n < 256 ∧ m = nI n := by
  unfold isMv at h
  split at h
  · exact absurd rfl h
  · split at h
    · exact absurd rfl h
    · rename_i h1 h2
      obtain ⟨j, hj, e⟩ := nI_of h1
      have := fb_nlt (k := 255) (by decide) h2
      rw [e, nI_toInt hj] at this
      exact ⟨j, by omega, e⟩
/-- an int that isn't negative and is below nI n is nI of a number below n -/
theorem ix_of {t : Int32} {n : Nat} (hn : n < 2 ^ 31) (h0 : ¬ t < 0) (h1 : t < nI n) : ∃ j, j < n ∧ t = nI j := by
  obtain ⟨j, hj, e⟩ := nI_of h0
  subst e
  exact ⟨j, (nI_ltI hj hn).mp h1, rfl⟩
theorem ix_of2 {t : Int32} {n : Nat} (hn : n < 2 ^ 31) (h0 : ¬ t < 0) (h1 : ¬ nI n ≤ t) : ∃ j, j < n ∧ t = nI j := by
  obtain ⟨j, hj, e⟩ := nI_of h0
  subst e
  exact ⟨j, Nat.lt_of_not_le fun q => h1 ((nI_leI hn hj).mpr q), rfl⟩
