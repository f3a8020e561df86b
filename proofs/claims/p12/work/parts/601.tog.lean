/-- two conditions can stand together: behind them no condition is taken twice, and neither of them is taken -/
def Tog (bh tk : Nat → Nat → Prop) (c d : Nat) : Prop :=
  (∀ f g y, (bh c f ∨ bh d f) → (bh c g ∨ bh d g) → tk f y → tk g y → f = g) ∧ (∀ f, (bh c f ∨ bh d f) → ¬ tk f c ∧ ¬ tk f d)
theorem Tog.symm {bh tk : Nat → Nat → Prop} {c d : Nat} (h : Tog bh tk c d) : Tog bh tk d c :=
  ⟨fun f g y hf hg => h.1 f g y hf.symm hg.symm, fun f hf => (h.2 f hf.symm).symm⟩
section C1
variable {bh tk : Nat → Nat → Prop} {T : Nat → Prop} {a c d : Nat}
/-- what a new event makes stands together with what stands together with all that it takes -/
theorem tog_old (h0 : ∃ x, T x) (hT : ∀ x y, T x → T y → Tog bh tk x y) (hta : ∀ y, tk a y ↔ T y) (hbc : ∀ f, bh c f ↔ (f = a ∨ ∃ x, T x ∧ bh x f))
    (hnc : ∀ f, ¬ tk f c) (hna : ∀ x, T x → ¬ bh x a) (hda : ¬ bh d a) (hdd : Tog bh tk d d) : Tog bh tk c d ↔ ∀ x, T x → x ≠ d ∧ Tog bh tk x d := by
  constructor
  · intro h x hx
    have hne : x ≠ d := fun e => (h.2 a (Or.inl ((hbc a).mpr (Or.inl rfl)))).2 (e ▸ (hta x).mpr hx)
    have up : ∀ f, (bh x f ∨ bh d f) → (bh c f ∨ bh d f) := fun f hf => hf.elim (fun q => Or.inl ((hbc f).mpr (Or.inr ⟨x, hx, q⟩))) Or.inr
    refine ⟨hne, fun f g y hf hg => h.1 f g y (up f hf) (up g hg), fun f hf => ⟨fun q => ?_, (h.2 f (up f hf)).2⟩⟩
    have e := h.1 f a x (up f hf) (Or.inl ((hbc a).mpr (Or.inl rfl))) q ((hta x).mpr hx)
    subst e
    exact hf.elim (hna x hx) hda
  · intro h
    obtain ⟨x0, hx0⟩ := h0
    -- each event behind, but the new one, is behind one that is taken or behind d
    have cf : ∀ f g y, (f = a ∨ (∃ x, T x ∧ bh x f) ∨ bh d f) → (g = a ∨ (∃ x, T x ∧ bh x g) ∨ bh d g) → tk f y → tk g y → f = g := by
      have one : ∀ f y, ((∃ x, T x ∧ bh x f) ∨ bh d f) → tk f y → T y → False := by
        rintro f y (⟨x, hx, hf⟩ | hf) hy hty
        · exact ((hT x y hx hty).2 f (Or.inl hf)).2 hy
        · exact ((h y hty).2.2 f (Or.inr hf)).1 hy
      intro f g y hf hg hfy hgy
      rcases hf with rfl | hf
      · rcases hg with rfl | hg
        · rfl
        · exact (one g y hg hgy ((hta y).mp hfy)).elim
      · rcases hg with rfl | hg
        · exact (one f y hf hfy ((hta y).mp hgy)).elim
        · rcases hf with ⟨x, hx, hf⟩ | hf
          · rcases hg with ⟨z, hz, hg⟩ | hg
            · exact (hT x z hx hz).1 f g y (Or.inl hf) (Or.inr hg) hfy hgy
            · exact (h x hx).2.1 f g y (Or.inl hf) (Or.inr hg) hfy hgy
          · rcases hg with ⟨z, hz, hg⟩ | hg
            · exact (h z hz).2.1 f g y (Or.inr hf) (Or.inl hg) hfy hgy
            · exact hdd.1 f g y (Or.inl hf) (Or.inl hg) hfy hgy
    have sp : ∀ f, (bh c f ∨ bh d f) → (f = a ∨ (∃ x, T x ∧ bh x f) ∨ bh d f) := fun f hf => by
      rcases hf with hf | hf
      · rcases (hbc f).mp hf with q | q
        · exact Or.inl q
        · exact Or.inr (Or.inl q)
      · exact Or.inr (Or.inr hf)
    refine ⟨fun f g y hf hg => cf f g y (sp f hf) (sp g hg), fun f hf => ⟨hnc f, fun q => ?_⟩⟩
    rcases sp f hf with rfl | ⟨x, hx, hf⟩ | hf
    · exact (h d ((hta d).mp q)).1 rfl
    · exact ((h x hx).2.2 f (Or.inl hf)).2 q
    · exact (hdd.2 f (Or.inl hf)).1 q
/-- what one event makes stands together -/
theorem tog_new (hT : ∀ x y, T x → T y → Tog bh tk x y) (hta : ∀ y, tk a y ↔ T y) (hbc : ∀ f, bh c f ↔ (f = a ∨ ∃ x, T x ∧ bh x f)) (hbd : ∀ f, bh d f ↔ (f = a ∨ ∃ x, T x ∧ bh x f))
    (hnc : ∀ f, ¬ tk f c) (hnd : ∀ f, ¬ tk f d) : Tog bh tk c d := by
  have sp : ∀ f, (bh c f ∨ bh d f) → (f = a ∨ ∃ x, T x ∧ bh x f) := fun f hf => hf.elim (hbc f).mp (hbd f).mp
  have one : ∀ f y, (∃ x, T x ∧ bh x f) → tk f y → T y → False := by
    rintro f y ⟨x, hx, hf⟩ hy hty
    exact ((hT x y hx hty).2 f (Or.inl hf)).2 hy
  refine ⟨fun f g y hf hg hfy hgy => ?_, fun f _ => ⟨hnc f, hnd f⟩⟩
  rcases sp f hf with rfl | hf
  · rcases sp g hg with rfl | hg
    · rfl
    · exact (one g y hg hgy ((hta y).mp hfy)).elim
  · rcases sp g hg with rfl | hg
    · exact (one f y hf hfy ((hta y).mp hgy)).elim
    · obtain ⟨x, hx, hf⟩ := hf
      obtain ⟨z, hz, hg⟩ := hg
      exact (hT x z hx hz).1 f g y (Or.inl hf) (Or.inr hg) hfy hgy
end C1
