section C3
variable {bh tk : Nat → Nat → Prop} {mk : Nat → Option Nat} {pl : Nat → Nat} {C : Nat → Prop} {nc k : Nat}
/-- made by the events below k of a set, or from the beginning, and taken by none of them -/
def Cut (tk : Nat → Nat → Prop) (mk : Nat → Option Nat) (C : Nat → Prop) (k c : Nat) : Prop := (mk c = none ∨ ∃ a, mk c = some a ∧ C a ∧ a < k) ∧ ∀ a, C a → a < k → ¬ tk a c
def Mrk (tk : Nat → Nat → Prop) (mk : Nat → Option Nat) (pl : Nat → Nat) (C : Nat → Prop) (nc k p : Nat) : Prop := ∃ c, c < nc ∧ Cut tk mk C k c ∧ pl c = p
/-- a set of events with all their causes, none of which takes what another takes -/
def EvConf (bh tk : Nat → Nat → Prop) (mk : Nat → Option Nat) (C : Nat → Prop) : Prop := (∀ a x b, C a → tk a x → mk x = some b → C b) ∧ (∀ a b y, C a → C b → tk a y → tk b y → a = b) ∧ (∀ x a f, mk x = some a → C a → bh x f → C f)
theorem EvConf.made {bh tk : Nat → Nat → Prop} {mk : Nat → Option Nat} {C : Nat → Prop} (h : EvConf bh tk mk C) : ∀ a x b, C a → tk a x → mk x = some b → C b := h.1
theorem EvConf.free {bh tk : Nat → Nat → Prop} {mk : Nat → Option Nat} {C : Nat → Prop} (h : EvConf bh tk mk C) : ∀ a b y, C a → C b → tk a y → tk b y → a = b := h.2.1
theorem EvConf.back {bh tk : Nat → Nat → Prop} {mk : Nat → Option Nat} {C : Nat → Prop} (h : EvConf bh tk mk C) : ∀ x a f, mk x = some a → C a → bh x f → C f := h.2.2
def EvOrd (bh tk : Nat → Nat → Prop) (mk : Nat → Option Nat) (nc : Nat) : Prop := (∀ a x b, tk a x → mk x = some b → b < a) ∧ (∀ x a f, mk x = some a → bh x f → f ≤ a) ∧ (∀ x f, mk x = none → ¬ bh x f) ∧ (∀ a x, tk a x → x < nc)
theorem EvOrd.lt {bh tk : Nat → Nat → Prop} {mk : Nat → Option Nat} {nc : Nat} (h : EvOrd bh tk mk nc) : ∀ a x b, tk a x → mk x = some b → b < a := h.1
theorem EvOrd.le {bh tk : Nat → Nat → Prop} {mk : Nat → Option Nat} {nc : Nat} (h : EvOrd bh tk mk nc) : ∀ x a f, mk x = some a → bh x f → f ≤ a := h.2.1
theorem EvOrd.none {bh tk : Nat → Nat → Prop} {mk : Nat → Option Nat} {nc : Nat} (h : EvOrd bh tk mk nc) : ∀ x f, mk x = none → ¬ bh x f := h.2.2.1
theorem EvOrd.dom {bh tk : Nat → Nat → Prop} {mk : Nat → Option Nat} {nc : Nat} (h : EvOrd bh tk mk nc) : ∀ a x, tk a x → x < nc := h.2.2.2
theorem cut_tog (hC : EvConf bh tk mk C) (hO : EvOrd bh tk mk nc) {x y : Nat} (hx : Cut tk mk C k x) (hy : Cut tk mk C k y) : Tog bh tk x y := by
  have inC : ∀ z, Cut tk mk C k z → ∀ f, bh z f → C f ∧ f < k := by
    intro z hz f hf
    rcases hz.1 with q | ⟨a, q, ha, hk⟩
    · exact absurd hf (hO.none z f q)
    · exact ⟨hC.back z a f q ha hf, Nat.lt_of_le_of_lt (hO.le z a f q hf) hk⟩
  have both : ∀ f, (bh x f ∨ bh y f) → C f ∧ f < k := fun f hf => hf.elim (inC x hx f) (inC y hy f)
  exact ⟨fun f g z hf hg => hC.free f g z (both f hf).1 (both g hg).1, fun f hf => ⟨hx.2 f (both f hf).1 (both f hf).2, hy.2 f (both f hf).1 (both f hf).2⟩⟩
/-- the marking, event by event -/
theorem mrk_step (hC : EvConf bh tk mk C) (hO : EvOrd bh tk mk nc) (hs : ∀ x y, x < nc → y < nc → Tog bh tk x y → pl x = pl y → x = y) (hk : C k) (hnew : ∀ c, mk c = some k → c < nc) (p : Nat) :
    Mrk tk mk pl C nc (k + 1) p ↔ ((Mrk tk mk pl C nc k p ∧ ¬ ∃ x, tk k x ∧ pl x = p) ∨ ∃ c, mk c = some k ∧ pl c = p) := by
  have cutT : ∀ x, tk k x → Cut tk mk C k x := by
    intro x hx
    refine ⟨?_, fun a ha hak hax => ?_⟩
    · cases h : mk x with
      | none => exact Or.inl rfl
      | some b => exact Or.inr ⟨b, rfl, hC.made k x b hk hx h, hO.lt k x b hx h⟩
    · have := hC.free a k x ha hk hax hx
      omega
  constructor
  · rintro ⟨c, hc, ⟨hm, ht⟩, rfl⟩
    by_cases e : mk c = some k
    · exact Or.inr ⟨c, e, rfl⟩
    · have hcut : Cut tk mk C k c := by
        refine ⟨?_, fun a ha hak => ht a ha (by omega)⟩
        rcases hm with q | ⟨a, q, ha, hak⟩
        · exact Or.inl q
        · refine Or.inr ⟨a, q, ha, ?_⟩
          have : a ≠ k := fun z => e (z ▸ q)
          omega
      refine Or.inl ⟨⟨c, hc, hcut, rfl⟩, ?_⟩
      rintro ⟨x, hx, hpl⟩
      have := hs x c (hO.dom k x hx) hc (cut_tog hC hO (cutT x hx) hcut) hpl
      subst this
      exact ht k hk (by omega) hx
  · rintro (⟨⟨c, hc, ⟨hm, ht⟩, rfl⟩, hn⟩ | ⟨c, hc, rfl⟩)
    · refine ⟨c, hc, ⟨?_, fun a ha hak hax => ?_⟩, rfl⟩
      · rcases hm with q | ⟨a, q, ha, hak⟩
        · exact Or.inl q
        · exact Or.inr ⟨a, q, ha, by omega⟩
      · by_cases e : a = k
        · subst e; exact hn ⟨c, hax, rfl⟩
        · exact ht a ha (by omega) hax
    · refine ⟨c, hnew c hc, ⟨Or.inr ⟨k, hc, hk, by omega⟩, fun a ha hak hax => ?_⟩, rfl⟩
      have := hO.lt a c k hax hc
      omega
theorem mrk_skip (hk : ¬ C k) (p : Nat) : Mrk tk mk pl C nc (k + 1) p ↔ Mrk tk mk pl C nc k p := by
  have key : ∀ c, Cut tk mk C (k + 1) c ↔ Cut tk mk C k c := by
    intro c
    have hlt : ∀ a, C a → (a < k + 1 ↔ a < k) := fun a ha => by
      have : a ≠ k := fun e => hk (e ▸ ha)
      omega
    constructor
    · rintro ⟨hm, ht⟩
      exact ⟨hm.imp id (fun ⟨a, q, ha, hak⟩ => ⟨a, q, ha, (hlt a ha).mp hak⟩), fun a ha hak => ht a ha (by omega)⟩
    · rintro ⟨hm, ht⟩
      exact ⟨hm.imp id (fun ⟨a, q, ha, hak⟩ => ⟨a, q, ha, by omega⟩), fun a ha hak => ht a ha ((hlt a ha).mp hak)⟩
  exact ⟨fun ⟨c, hc, h, e⟩ => ⟨c, hc, (key c).mp h, e⟩, fun ⟨c, hc, h, e⟩ => ⟨c, hc, (key c).mpr h, e⟩⟩
end C3
