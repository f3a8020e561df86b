/-! Sums over rows: sets that grow, sets that shrink; what the rows of a prefix say. -/
section ACC
variable {S : Nat → Nat → Prop} {D : Nat → Prop} {i : Nat}
theorem ex_s : ∀ f, (∃ c, c < i + 1 ∧ S c f) ↔ ((∃ c, c < i ∧ S c f) ∨ S i f) := fun f => by
  constructor
  · rintro ⟨c, hc, h⟩
    by_cases e : c = i
    · subst e; exact Or.inr h
    · exact Or.inl ⟨c, by omega, h⟩
  · rintro (⟨c, hc, h⟩ | h)
    · exact ⟨c, by omega, h⟩
    · exact ⟨i, by omega, h⟩
theorem all_s : ∀ f, (∀ c, c < i + 1 → S c f) ↔ ((∀ c, c < i → S c f) ∧ S i f) := fun f => by
  constructor
  · exact fun h => ⟨fun c hc => h c (by omega), h i (by omega)⟩
  · rintro ⟨h1, h2⟩ c hc
    by_cases e : c = i
    · subst e; exact h2
    · exact h1 c (by omega)
theorem a64_0 : B64 0 (fun f => ∃ c, c < 0 ∧ S c f) := B64.zero.congr fun f => ⟨False.elim, fun ⟨c, hc, _⟩ => absurd hc (Nat.not_lt_zero c)⟩
theorem a32_0 : B32 0 (fun f => ∃ c, c < 0 ∧ S c f) := B32.zero.congr fun f => ⟨False.elim, fun ⟨c, hc, _⟩ => absurd hc (Nat.not_lt_zero c)⟩
theorem a64_skip {v : Int64} (hv : B64 v (fun f => ∃ c, c < i ∧ S c f)) (h : ∀ f, ¬ S i f) : B64 v (fun f => ∃ c, c < i + 1 ∧ S c f) := hv.congr fun f => by
  rw [ex_s f]; exact ⟨Or.inl, fun q => q.elim id (fun r => absurd r (h f))⟩
theorem a64_or {v y : Int64} (hv : B64 v (fun f => ∃ c, c < i ∧ S c f)) (hy : B64 y (S i)) : B64 (v ||| y) (fun f => ∃ c, c < i + 1 ∧ S c f) := (hv.or hy).congr fun f => (ex_s f).symm
theorem a32_skip {v : Int32} (hv : B32 v (fun f => ∃ c, c < i ∧ S c f)) (h : ∀ f, ¬ S i f) : B32 v (fun f => ∃ c, c < i + 1 ∧ S c f) := hv.congr fun f => by
  rw [ex_s f]; exact ⟨Or.inl, fun q => q.elim id (fun r => absurd r (h f))⟩
theorem a32_or {v y : Int32} (hv : B32 v (fun f => ∃ c, c < i ∧ S c f)) (hy : B32 y (S i)) : B32 (v ||| y) (fun f => ∃ c, c < i + 1 ∧ S c f) := (hv.or hy).congr fun f => (ex_s f).symm
theorem l64_0 {v : Int64} (hv : B64 v D) : B64 v (fun f => D f ∧ ∀ c, c < 0 → S c f) := hv.congr fun f => ⟨fun q => ⟨q, fun c hc => absurd hc (Nat.not_lt_zero c)⟩, fun q => q.1⟩
theorem l64_skip {v : Int64} (hv : B64 v (fun f => D f ∧ ∀ c, c < i → S c f)) (h : ∀ f, S i f) : B64 v (fun f => D f ∧ ∀ c, c < i + 1 → S c f) := hv.congr fun f => by
  rw [all_s f]; exact ⟨fun q => ⟨q.1, q.2, h f⟩, fun q => ⟨q.1, q.2.1⟩⟩
theorem l64_and {v y : Int64} (hv : B64 v (fun f => D f ∧ ∀ c, c < i → S c f)) (hy : B64 y (S i)) : B64 (v &&& y) (fun f => D f ∧ ∀ c, c < i + 1 → S c f) := (hv.and hy).congr fun f => by
  rw [all_s f]; exact ⟨fun q => ⟨q.1.1, q.1.2, q.2⟩, fun q => ⟨⟨q.1, q.2.1⟩, q.2.2⟩⟩
end ACC
/-- what the rows 'maker' and 'causes' say of what is behind a condition -/
def CauI (n : Nat) (fmk fca : Nat → Int32) (bh : Nat → Nat → Prop) : Prop := ∀ c, c < n → (fmk c = -1 ∧ ∀ f, ¬ bh c f) ∨ ∃ a, a < 30 ∧ fmk c = nI a ∧ B32 (fca a) (bh c)
def BesI (n : Nat) (fbs : Nat → Int64) (co : Nat → Nat → Prop) : Prop := ∀ c, c < n → B64 (fbs c) (co c)
def MakI (n : Nat) (fmk : Nat → Int32) (mo : Nat → Option Nat) : Prop := ∀ c, c < n → (fmk c = -1 ∧ mo c = none) ∨ ∃ a, a < 30 ∧ fmk c = nI a ∧ mo c = some a
def TakI (n : Nat) (ftk : Nat → Int32) (tk : Nat → Nat → Prop) : Prop := ∀ c, c < n → B32 (ftk c) (fun a => tk a c)
def PlaI (n : Nat) (fpl : Nat → Int32) (pl : Nat → Nat) : Prop := ∀ c, c < n → fpl c = nI (pl c) ∧ pl c < 8
def TraI (n : Nat) (ftr : Nat → Int32) (tr : Nat → Nat) : Prop := ∀ a, a < n → ftr a = nI (tr a) ∧ tr a < 8
theorem CauI.no {n c : Nat} {fmk fca : Nat → Int32} {bh : Nat → Nat → Prop} (h : CauI n fmk fca bh) (hc : c < n) (e : fmk c = -1) : ∀ f, ¬ bh c f := by
  rcases h c hc with ⟨-, q⟩ | ⟨a, ha, q, -⟩
  · exact q
  · rw [q] at e; exact (cv_nm1 (by omega) e).elim
theorem CauI.yes {n c : Nat} {fmk fca : Nat → Int32} {bh : Nat → Nat → Prop} (h : CauI n fmk fca bh) (hc : c < n) (e : ¬ fmk c = -1) : ∃ a, a < 30 ∧ fmk c = nI a ∧ B32 (fca a) (bh c) := by
  rcases h c hc with ⟨q, -⟩ | q
  · exact absurd q e
  · exact q
theorem MakI.yes {n c : Nat} {fmk : Nat → Int32} {mo : Nat → Option Nat} (h : MakI n fmk mo) (hc : c < n) (e : ¬ fmk c = -1) : ∃ a, a < 30 ∧ fmk c = nI a ∧ mo c = some a := by
  rcases h c hc with ⟨q, -⟩ | q
  · exact absurd q e
  · exact q
theorem MakI.no {n c : Nat} {fmk : Nat → Int32} {mo : Nat → Option Nat} (h : MakI n fmk mo) (hc : c < n) (e : fmk c = -1) : mo c = none := by
  rcases h c hc with ⟨-, q⟩ | ⟨a, ha, q, -⟩
  · exact q
  · rw [q] at e; exact (cv_nm1 (by omega) e).elim
theorem mad_n {mo : Nat → Option Nat} {X : Nat → Prop} {c q : Nat} (hm : mo c = some q) (hX : ¬ X q) : ¬ (mo c = none ∨ ∃ a, mo c = some a ∧ X a) := by
  rintro (e | ⟨a, e, ha⟩)
  · rw [hm] at e; cases e
  · rw [hm] at e; cases e; exact hX ha
theorem mad_t {x y : Int32} {T X : Nat → Prop} (hT : B32 y T) (hX : B32 x X) (h : ¬ (y &&& x) = 0) : ¬ ∀ a, X a → ¬ T a := fun q => h ((hT.and hX).nz.mpr fun i r => q i r.2 r.1)
