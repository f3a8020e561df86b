/-! A net, and the beginning of its unfolding, as plain functions. -/
def Net8 : Type := (Nat) × (Nat → Nat → Bool) × (Nat → Nat → Bool) × (Nat → Bool)
def Net8.nz (h : Net8) : Nat := h.1
def Net8.pr (h : Net8) : Nat → Nat → Bool := h.2.1
def Net8.po (h : Net8) : Nat → Nat → Bool := h.2.2.1
def Net8.fi (h : Net8) : Nat → Bool := h.2.2.2
def Net8.mk (nz' : Nat) (pr' : Nat → Nat → Bool) (po' : Nat → Nat → Bool) (fi' : Nat → Bool) : Net8 := (nz', pr', po', fi')
def Px : Type := (Nat) × (Nat) × (Nat → Nat) × (Nat → Option Nat) × (Nat → Nat) × (Nat → Nat → Bool) × (Nat → Nat → Bool) × (Nat → Bool) × (Nat → Nat → Bool) × (Nat → Nat)
def Px.nc (h : Px) : Nat := h.1
def Px.ne (h : Px) : Nat := h.2.1
def Px.pl (h : Px) : Nat → Nat := h.2.2.1
def Px.mo (h : Px) : Nat → Option Nat := h.2.2.2.1
def Px.tr (h : Px) : Nat → Nat := h.2.2.2.2.1
def Px.tk (h : Px) : Nat → Nat → Bool := h.2.2.2.2.2.1
def Px.cs (h : Px) : Nat → Nat → Bool := h.2.2.2.2.2.2.1
def Px.ct (h : Px) : Nat → Bool := h.2.2.2.2.2.2.2.1
def Px.mg (h : Px) : Nat → Nat → Bool := h.2.2.2.2.2.2.2.2.1
def Px.rk (h : Px) : Nat → Nat := h.2.2.2.2.2.2.2.2.2
def Px.mk (nc' : Nat) (ne' : Nat) (pl' : Nat → Nat) (mo' : Nat → Option Nat) (tr' : Nat → Nat) (tk' : Nat → Nat → Bool) (cs' : Nat → Nat → Bool) (ct' : Nat → Bool) (mg' : Nat → Nat → Bool) (rk' : Nat → Nat) : Px := (nc', ne', pl', mo', tr', tk', cs', ct', mg', rk')
theorem Px.mk_nc {nc' : Nat} {ne' : Nat} {pl' : Nat → Nat} {mo' : Nat → Option Nat} {tr' : Nat → Nat} {tk' : Nat → Nat → Bool} {cs' : Nat → Nat → Bool} {ct' : Nat → Bool} {mg' : Nat → Nat → Bool} {rk' : Nat → Nat} : (Px.mk nc' ne' pl' mo' tr' tk' cs' ct' mg' rk').nc = nc' := rfl
theorem Px.mk_ne {nc' : Nat} {ne' : Nat} {pl' : Nat → Nat} {mo' : Nat → Option Nat} {tr' : Nat → Nat} {tk' : Nat → Nat → Bool} {cs' : Nat → Nat → Bool} {ct' : Nat → Bool} {mg' : Nat → Nat → Bool} {rk' : Nat → Nat} : (Px.mk nc' ne' pl' mo' tr' tk' cs' ct' mg' rk').ne = ne' := rfl
theorem Px.mk_pl {nc' : Nat} {ne' : Nat} {pl' : Nat → Nat} {mo' : Nat → Option Nat} {tr' : Nat → Nat} {tk' : Nat → Nat → Bool} {cs' : Nat → Nat → Bool} {ct' : Nat → Bool} {mg' : Nat → Nat → Bool} {rk' : Nat → Nat} : (Px.mk nc' ne' pl' mo' tr' tk' cs' ct' mg' rk').pl = pl' := rfl
theorem Px.mk_mo {nc' : Nat} {ne' : Nat} {pl' : Nat → Nat} {mo' : Nat → Option Nat} {tr' : Nat → Nat} {tk' : Nat → Nat → Bool} {cs' : Nat → Nat → Bool} {ct' : Nat → Bool} {mg' : Nat → Nat → Bool} {rk' : Nat → Nat} : (Px.mk nc' ne' pl' mo' tr' tk' cs' ct' mg' rk').mo = mo' := rfl
theorem Px.mk_tr {nc' : Nat} {ne' : Nat} {pl' : Nat → Nat} {mo' : Nat → Option Nat} {tr' : Nat → Nat} {tk' : Nat → Nat → Bool} {cs' : Nat → Nat → Bool} {ct' : Nat → Bool} {mg' : Nat → Nat → Bool} {rk' : Nat → Nat} : (Px.mk nc' ne' pl' mo' tr' tk' cs' ct' mg' rk').tr = tr' := rfl
theorem Px.mk_tk {nc' : Nat} {ne' : Nat} {pl' : Nat → Nat} {mo' : Nat → Option Nat} {tr' : Nat → Nat} {tk' : Nat → Nat → Bool} {cs' : Nat → Nat → Bool} {ct' : Nat → Bool} {mg' : Nat → Nat → Bool} {rk' : Nat → Nat} : (Px.mk nc' ne' pl' mo' tr' tk' cs' ct' mg' rk').tk = tk' := rfl
theorem Px.mk_cs {nc' : Nat} {ne' : Nat} {pl' : Nat → Nat} {mo' : Nat → Option Nat} {tr' : Nat → Nat} {tk' : Nat → Nat → Bool} {cs' : Nat → Nat → Bool} {ct' : Nat → Bool} {mg' : Nat → Nat → Bool} {rk' : Nat → Nat} : (Px.mk nc' ne' pl' mo' tr' tk' cs' ct' mg' rk').cs = cs' := rfl
theorem Px.mk_ct {nc' : Nat} {ne' : Nat} {pl' : Nat → Nat} {mo' : Nat → Option Nat} {tr' : Nat → Nat} {tk' : Nat → Nat → Bool} {cs' : Nat → Nat → Bool} {ct' : Nat → Bool} {mg' : Nat → Nat → Bool} {rk' : Nat → Nat} : (Px.mk nc' ne' pl' mo' tr' tk' cs' ct' mg' rk').ct = ct' := rfl
theorem Px.mk_mg {nc' : Nat} {ne' : Nat} {pl' : Nat → Nat} {mo' : Nat → Option Nat} {tr' : Nat → Nat} {tk' : Nat → Nat → Bool} {cs' : Nat → Nat → Bool} {ct' : Nat → Bool} {mg' : Nat → Nat → Bool} {rk' : Nat → Nat} : (Px.mk nc' ne' pl' mo' tr' tk' cs' ct' mg' rk').mg = mg' := rfl
theorem Px.mk_rk {nc' : Nat} {ne' : Nat} {pl' : Nat → Nat} {mo' : Nat → Option Nat} {tr' : Nat → Nat} {tk' : Nat → Nat → Bool} {cs' : Nat → Nat → Bool} {ct' : Nat → Bool} {mg' : Nat → Nat → Bool} {rk' : Nat → Nat} : (Px.mk nc' ne' pl' mo' tr' tk' cs' ct' mg' rk').rk = rk' := rfl
def Px.bh (P : Px) (c f : Nat) : Prop := ∃ a, P.mo c = some a ∧ P.cs a f = true
def Px.tkP (P : Px) (a c : Nat) : Prop := P.tk a c = true
def Px.tog (P : Px) (c d : Nat) : Prop := Tog P.bh P.tkP c d
def PxOk (N : Net8) (P : Px) : Prop := (∀ a c, P.tk a c = true → a < P.ne ∧ c < P.nc) ∧ (∀ c a, P.mo c = some a → a < P.ne ∧ c < P.nc) ∧ (∀ a c b, P.tk a c = true → P.mo c = some b → b < a) ∧ (∀ a f, P.cs a f = true ↔ (a < P.ne ∧ (f = a ∨ ∃ c b, P.tk a c = true ∧ P.mo c = some b ∧ P.cs b f = true))) ∧ (∀ a x y, P.tk a x = true → P.tk a y = true → P.tog x y) ∧ (∀ c, c < P.nc → P.tog c c) ∧ (∀ a, a < P.ne → ∃ x, P.tk a x = true) ∧ (∀ c d, c < P.nc → d < P.nc → c ≠ d → P.tog c d → P.pl c ≠ P.pl d) ∧ (∀ c a, P.mo c = some a → P.ct a = false) ∧ (∀ a, a < P.ne → P.ct a = false → ∀ p, (∃ c, P.mo c = some a ∧ P.pl c = p) ↔ (p < 8 ∧ N.po (P.tr a) p = true)) ∧ (∀ a, a < P.ne → ∀ p, (∃ x, P.tk a x = true ∧ P.pl x = p) ↔ (p < 8 ∧ N.pr (P.tr a) p = true)) ∧ (∀ p, (∃ c, c < P.nc ∧ P.mo c = none ∧ P.pl c = p) ↔ (p < 8 ∧ N.fi p = true)) ∧ (∀ c, c < P.nc → P.pl c < 8) ∧ (∀ a, a < P.ne → P.tr a < N.nz)
theorem PxOk.tkd {N : Net8} {P : Px} (h : PxOk N P) : ∀ a c, P.tk a c = true → a < P.ne ∧ c < P.nc := h.1
theorem PxOk.mkd {N : Net8} {P : Px} (h : PxOk N P) : ∀ c a, P.mo c = some a → a < P.ne ∧ c < P.nc := h.2.1
theorem PxOk.lt {N : Net8} {P : Px} (h : PxOk N P) : ∀ a c b, P.tk a c = true → P.mo c = some b → b < a := h.2.2.1
theorem PxOk.csd {N : Net8} {P : Px} (h : PxOk N P) : ∀ a f, P.cs a f = true ↔ (a < P.ne ∧ (f = a ∨ ∃ c b, P.tk a c = true ∧ P.mo c = some b ∧ P.cs b f = true)) := h.2.2.2.1
theorem PxOk.ttog {N : Net8} {P : Px} (h : PxOk N P) : ∀ a x y, P.tk a x = true → P.tk a y = true → P.tog x y := h.2.2.2.2.1
theorem PxOk.self {N : Net8} {P : Px} (h : PxOk N P) : ∀ c, c < P.nc → P.tog c c := h.2.2.2.2.2.1
theorem PxOk.ne0 {N : Net8} {P : Px} (h : PxOk N P) : ∀ a, a < P.ne → ∃ x, P.tk a x = true := h.2.2.2.2.2.2.1
theorem PxOk.safe {N : Net8} {P : Px} (h : PxOk N P) : ∀ c d, c < P.nc → d < P.nc → c ≠ d → P.tog c d → P.pl c ≠ P.pl d := h.2.2.2.2.2.2.2.1
theorem PxOk.nct {N : Net8} {P : Px} (h : PxOk N P) : ∀ c a, P.mo c = some a → P.ct a = false := h.2.2.2.2.2.2.2.2.1
theorem PxOk.post {N : Net8} {P : Px} (h : PxOk N P) : ∀ a, a < P.ne → P.ct a = false → ∀ p, (∃ c, P.mo c = some a ∧ P.pl c = p) ↔ (p < 8 ∧ N.po (P.tr a) p = true) := h.2.2.2.2.2.2.2.2.2.1
theorem PxOk.pre {N : Net8} {P : Px} (h : PxOk N P) : ∀ a, a < P.ne → ∀ p, (∃ x, P.tk a x = true ∧ P.pl x = p) ↔ (p < 8 ∧ N.pr (P.tr a) p = true) := h.2.2.2.2.2.2.2.2.2.2.1
theorem PxOk.init {N : Net8} {P : Px} (h : PxOk N P) : ∀ p, (∃ c, c < P.nc ∧ P.mo c = none ∧ P.pl c = p) ↔ (p < 8 ∧ N.fi p = true) := h.2.2.2.2.2.2.2.2.2.2.2.1
theorem PxOk.pl8 {N : Net8} {P : Px} (h : PxOk N P) : ∀ c, c < P.nc → P.pl c < 8 := h.2.2.2.2.2.2.2.2.2.2.2.2.1
theorem PxOk.tr8 {N : Net8} {P : Px} (h : PxOk N P) : ∀ a, a < P.ne → P.tr a < N.nz := h.2.2.2.2.2.2.2.2.2.2.2.2.2
section PX
variable {N : Net8} {P : Px}
theorem PxOk.cs_le (h : PxOk N P) : ∀ a f, P.cs a f = true → f ≤ a := by
  intro a
  induction a using Nat.strongRecOn with
  | _ a ih =>
    intro f hf
    rcases ((h.csd a f).mp hf).2 with rfl | ⟨c, b, h1, h2, h3⟩
    · exact Nat.le_refl _
    · have hb := h.lt a c b h1 h2
      exact Nat.le_of_lt (Nat.lt_of_le_of_lt (ih b hb f h3) hb)
theorem PxOk.cs_trans (h : PxOk N P) : ∀ a b f, P.cs a b = true → P.cs b f = true → P.cs a f = true := by
  intro a
  induction a using Nat.strongRecOn with
  | _ a ih =>
    intro b f hab hbf
    obtain ⟨ha, hq⟩ := (h.csd a b).mp hab
    rcases hq with rfl | ⟨c, g, h1, h2, h3⟩
    · exact hbf
    · exact (h.csd a f).mpr ⟨ha, Or.inr ⟨c, g, h1, h2, ih g (h.lt a c g h1 h2) b f h3 hbf⟩⟩
theorem PxOk.cs_made (h : PxOk N P) {a b x g : Nat} (hab : P.cs a b = true) (hx : P.tk b x = true) (hg : P.mo x = some g) : P.cs a g = true :=
  h.cs_trans a b g hab ((h.csd b g).mpr ⟨(h.tkd b x hx).1, Or.inr ⟨x, g, hx, hg, (h.csd g g).mpr ⟨(h.mkd x g hg).1, Or.inl rfl⟩⟩⟩)
theorem PxOk.ord (h : PxOk N P) : EvOrd P.bh P.tkP P.mo P.nc := ⟨(h.lt),
  (fun x a f hm ⟨b, hb, hf⟩ => by rw [hm] at hb; cases hb; exact h.cs_le a f hf),
  (fun x f hm ⟨b, hb, _⟩ => by rw [hm] at hb; cases hb),
  (fun a x hx => (h.tkd a x hx).2)⟩
/-- the events behind conditions that stand together are a sound set -/
theorem PxOk.conf (h : PxOk N P) {T : Nat → Prop} (hT : ∀ x y, T x → T y → P.tog x y) : EvConf P.bh P.tkP P.mo (fun f => ∃ x, T x ∧ P.bh x f) := ⟨(by
    rintro a x b ⟨z, hz, g, hg, hga⟩ hx hb
    exact ⟨z, hz, g, hg, h.cs_made hga hx hb⟩),
  (by
    rintro a b y ⟨z, hz, hza⟩ ⟨w, hw, hwb⟩ ha hb
    exact (hT z w hz hw).1 a b y (Or.inl hza) (Or.inr hwb) ha hb),
  (by
    rintro x a f hx ⟨z, hz, g, hg, hga⟩ ⟨b, hb, hf⟩
    rw [hx] at hb; cases hb
    exact ⟨z, hz, g, hg, h.cs_trans g a f hga hf⟩)⟩
/-- the marking of a sound set: what is made and not taken; and the same, event by event -/
def Px.mrk (P : Px) (C : Nat → Prop) (p : Nat) : Prop := Mrk P.tkP P.mo P.pl C P.nc P.ne p
theorem PxOk.safe' (h : PxOk N P) : ∀ x y, x < P.nc → y < P.nc → Tog P.bh P.tkP x y → P.pl x = P.pl y → x = y := fun x y hx hy ht he => by
  by_cases e : x = y
  · exact e
  · exact absurd he (h.safe x y hx hy e ht)
theorem PxOk.mstep (h : PxOk N P) {C : Nat → Prop} (hC : EvConf P.bh P.tkP P.mo C) {k : Nat} (hk : C k) (hkn : k < P.ne) (hct : P.ct k = false) (p : Nat) :
    Mrk P.tkP P.mo P.pl C P.nc (k + 1) p ↔ ((Mrk P.tkP P.mo P.pl C P.nc k p ∧ ¬ (p < 8 ∧ N.pr (P.tr k) p = true)) ∨ (p < 8 ∧ N.po (P.tr k) p = true)) := by
  rw [mrk_step hC h.ord h.safe' hk (fun c hc => (h.mkd c k hc).2) p, ← h.pre k hkn p, ← h.post k hkn hct p]
  rfl
theorem PxOk.mzero (h : PxOk N P) {C : Nat → Prop} (p : Nat) : Mrk P.tkP P.mo P.pl C P.nc 0 p ↔ (p < 8 ∧ N.fi p = true) := by
  rw [← h.init p]
  constructor
  · rintro ⟨c, hc, ⟨hm, -⟩, rfl⟩
    rcases hm with hm | ⟨a, -, -, ha⟩
    · exact ⟨c, hc, hm, rfl⟩
    · omega
  · rintro ⟨c, hc, hm, rfl⟩
    exact ⟨c, hc, ⟨Or.inl hm, fun a _ ha => by omega⟩, rfl⟩
end PX
