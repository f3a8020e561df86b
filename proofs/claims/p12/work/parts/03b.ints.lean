/-! Int32 facts as Int facts, and back. -/
section IX
variable {x c : Int32} {k : Int}
theorem fa_lt (hk : c.toInt = k) (h : x < c) : x.toInt < k := hk ▸ Int32.lt_iff_toInt_lt.mp h
theorem fa_nlt (hk : c.toInt = k) (h : ¬ x < c) : k ≤ x.toInt := by rw [Int32.lt_iff_toInt_lt, hk] at h; omega
theorem fa_le (hk : c.toInt = k) (h : x ≤ c) : x.toInt ≤ k := hk ▸ Int32.le_iff_toInt_le.mp h
theorem fa_nle (hk : c.toInt = k) (h : ¬ x ≤ c) : k < x.toInt := by rw [Int32.le_iff_toInt_le, hk] at h; omega
theorem fa_eq (hk : c.toInt = k) (h : x = c) : x.toInt = k := by rw [h, hk]
theorem fa_ne (hk : c.toInt = k) (h : ¬ x = c) : ¬ x.toInt = k := fun e => h (Int32.toInt_inj.mp (by rw [e, hk]))
theorem fb_lt (hk : c.toInt = k) (h : c < x) : k < x.toInt := hk ▸ Int32.lt_iff_toInt_lt.mp h
theorem fb_nlt (hk : c.toInt = k) (h : ¬ c < x) : x.toInt ≤ k := by rw [Int32.lt_iff_toInt_lt, hk] at h; omega
theorem fb_le (hk : c.toInt = k) (h : c ≤ x) : k ≤ x.toInt := hk ▸ Int32.le_iff_toInt_le.mp h
theorem fb_nle (hk : c.toInt = k) (h : ¬ c ≤ x) : x.toInt < k := by rw [Int32.le_iff_toInt_le, hk] at h; omega
theorem ga_lt (hk : c.toInt = k) (h : x.toInt < k) : x < c := Int32.lt_iff_toInt_lt.mpr (by rw [hk]; exact h)
theorem ga_nlt (hk : c.toInt = k) (h : k ≤ x.toInt) : ¬ x < c := by rw [Int32.lt_iff_toInt_lt, hk]; omega
theorem ga_le (hk : c.toInt = k) (h : x.toInt ≤ k) : x ≤ c := Int32.le_iff_toInt_le.mpr (by rw [hk]; exact h)
theorem ga_nle (hk : c.toInt = k) (h : k < x.toInt) : ¬ x ≤ c := by rw [Int32.le_iff_toInt_le, hk]; omega
theorem ga_eq (hk : c.toInt = k) (h : x.toInt = k) : x = c := Int32.toInt_inj.mp (by rw [h, hk])
theorem ga_ne (hk : c.toInt = k) (h : ¬ x.toInt = k) : ¬ x = c := fun e => h (by rw [e, hk])
theorem gb_lt (hk : c.toInt = k) (h : k < x.toInt) : c < x := Int32.lt_iff_toInt_lt.mpr (by rw [hk]; exact h)
theorem gb_nlt (hk : c.toInt = k) (h : x.toInt ≤ k) : ¬ c < x := by rw [Int32.lt_iff_toInt_lt, hk]; omega
theorem gb_le (hk : c.toInt = k) (h : k ≤ x.toInt) : c ≤ x := Int32.le_iff_toInt_le.mpr (by rw [hk]; exact h)
theorem gb_nle (hk : c.toInt = k) (h : x.toInt < k) : ¬ c ≤ x := by rw [Int32.le_iff_toInt_le, hk]; omega
end IX
theorem pu_free {A : Nat → Prop} {H0 H : Heap} {locs : List Loc} (hS : va_S A H0 H locs) (hA : ∀ q, H0.size ≤ q → A q) : ∀ q, va_A [] H.size q → A q := by
  intro q h
  rcases h with ⟨k, e, h⟩ | h
  · simp at h
  · exact hA q (Nat.le_trans hS.1 h)
theorem pu_keep {D : va_G} {cl : List vw_C} {ws : va_W} {H H1 : Heap} (hP : va_P D cl ws H) (hk : ∀ q : Nat, q < H.size → ¬ va_A [] H.size q → H1[q]? = H[q]?) : va_P D cl ws H1 :=
  hP.kept fun k q hq => hk q.1 (hP k q hq).lt (by
    rintro (⟨k, e, h⟩ | h)
    · simp at h
    · exact absurd (hP _ q hq).lt (Nat.not_lt.mpr h))
theorem pu_keep2 {D : va_G} {cl : List vw_C} {ws : va_W} {H H1 : Heap} (hP : va_P D cl ws H) (hk : ∀ q : Nat, q < H.size → H1[q]? = H[q]?) : va_P D cl ws H1 :=
  hP.kept fun k q hq => hk q.1 (hP k q hq).lt
theorem pu_S {A : Nat → Prop} {H0 H H1 : Heap} {locs : List Loc} (hS : va_S A H0 H locs) (hk : ∀ q : Nat, q < H.size → H1[q]? = H[q]?) : va_S A H0 H1 locs :=
  ⟨Nat.le_trans hS.1 (hm_size hk), fun q h1 h2 => (hk q (Nat.lt_of_lt_of_le h1 hS.1)).trans (hS.2.1 q h1 h2), hS.2.2⟩
theorem pu_P {D : va_G} {cl : List vw_C} {H : Heap} : va_P D cl [] H := fun k q h => by simp at h
theorem pu_D {A : Nat → Prop} : va_D A [] := ⟨fun i j p q h => by simp at h, fun k q h => by simp at h⟩
/-- the two statics that Throwable's constructor reads -/
def ZqA (A : Nat → Prop) (U : State) (H : Heap) : Prop := va_Zq "java/lang/Throwable" "UNASSIGNED_STACK" "[Ljava/lang/StackTraceElement;" A U H ∧ va_Zq "java/lang/Throwable" "SUPPRESSED_SENTINEL" "Ljava/util/List;" A U H
theorem ZqA.moved {A : Nat → Prop} {u U : State} {H : Heap} (hvm : u.vm.Alike U.vm) (h : ZqA A u H) : ZqA A U H := ⟨va_Zq.moved hvm h.1, va_Zq.moved hvm h.2⟩
theorem ZqA.kept {A : Nat → Prop} {U : State} {H H1 : Heap} (h : ZqA A U H) (hq : ∀ a : Nat, a < H.size → ¬ A a → H1[a]? = H[a]?) : ZqA A U H1 := ⟨va_Zq.kept h.1 hq, va_Zq.kept h.2 hq⟩
theorem ZqA.narrow {A B : Nat → Prop} {U : State} {H : Heap} (h : ZqA A U H) (hAB : ∀ q, B q → A q) : ZqA B U H := ⟨va_Zq.narrow h.1 hAB, va_Zq.narrow h.2 hAB⟩
theorem nw_isM : True := trivial
theorem up_L0 (k : Nat) : vp_updL (fun _ => 0) k 0 = fun _ => 0 := by funext j; simp [vp_updL]
theorem up_I0 (k : Nat) : upd (fun _ => 0) k 0 = fun _ => 0 := by funext j; simp [upd]
def tx_Q (cls : String) : Array Value → State → Addr → State → Prop := fun _ u x t => ∃ ce : Cell, t.heap[x]? = some ce ∧ ce.vm = .none ∧ u.vm.findClass cls = some ce.cls
