section EXT2
variable {N : Net8} {P : Px} {t : Nat} {L : List Nat} {k : Bool} {mv : Nat → Bool} {rv : Nat}
def plc (f : Nat → Bool) : List Nat := (List.range 8).filter f
theorem plc_mem {f : Nat → Bool} {p : Nat} : p ∈ plc f ↔ (p < 8 ∧ f p = true) := by
  unfold plc; rw [List.mem_filter, List.mem_range]
theorem plc_nodup (f : Nat → Bool) : (plc f).Nodup := List.nodup_range.filter _
theorem ext_ok (h : PxOk N P) (hF : Fit N P t L) (hR : k = false → ∀ d, d < P.nc → (∀ x, x ∈ L → x ≠ d ∧ P.tog x d) → N.po t (P.pl d) = false) : PxOk N (P.ext t L k (plc (N.po t)) mv rv) := by
  generalize hps : plc (N.po t) = ps
  have psm : ∀ p, p ∈ ps ↔ (p < 8 ∧ N.po t p = true) := fun p => by rw [← hps]; exact plc_mem
  have psn : ps.Nodup := by rw [← hps]; exact plc_nodup _
  -- the new conditions
  have new : ∀ c a, (P.ext t L k ps mv rv).mo c = some a → P.nc ≤ c → (k = false ∧ c < P.nc + ps.length ∧ a = P.ne) := by
    intro c a hm hc
    have hm : (if c < P.nc then P.mo c else if k = false ∧ c < P.nc + ps.length then some P.ne else none) = some a := hm
    rw [if_neg (by omega)] at hm
    split at hm
    · rename_i q; cases hm; exact ⟨q.1, q.2, rfl⟩
    · cases hm
  have old : ∀ c a, (P.ext t L k ps mv rv).mo c = some a → c < P.nc → P.mo c = some a := by
    intro c a hm hc
    have hm : (if c < P.nc then P.mo c else _) = some a := hm
    rwa [if_pos hc] at hm
  have ncv : (P.ext t L k ps mv rv).nc = P.nc + (if k = true then 0 else ps.length) := rfl
  have nck : k = false → (P.ext t L k ps mv rv).nc = P.nc + ps.length := fun q => by rw [ncv, q]; rfl
  have ncl : P.nc ≤ (P.ext t L k ps mv rv).nc := by rw [ncv]; omega
  have csold : ∀ a f, a < P.ne → (P.ext t L k ps mv rv).cs a f = P.cs a f := fun a f ha => by
    show (if a < P.ne then _ else _) = _; rw [if_pos ha]
  have tkold : ∀ a c, a < P.ne → (P.ext t L k ps mv rv).tk a c = P.tk a c := fun a f ha => by
    show (if a < P.ne then _ else _) = _; rw [if_pos ha]
  have tknew : ∀ c, (P.ext t L k ps mv rv).tk P.ne c = true ↔ c ∈ L := fun c => by
    show (if P.ne < P.ne then _ else _) = true ↔ _
    rw [if_neg (Nat.lt_irrefl _)]; simp
  have plold : ∀ c, c < P.nc → (P.ext t L k ps mv rv).pl c = P.pl c := fun c hc => by
    show (if c < P.nc then _ else _) = _; rw [if_pos hc]
  have plnew : ∀ c, P.nc ≤ c → (P.ext t L k ps mv rv).pl c = ps.getD (c - P.nc) 0 := fun c hc => by
    show (if c < P.nc then _ else _) = _; rw [if_neg (by omega)]
  have plin : ∀ c, P.nc ≤ c → c < P.nc + ps.length → (P.ext t L k ps mv rv).pl c ∈ ps := fun c hc hc2 => by
    rw [plnew c hc, List.getD_eq_getElem?_getD, List.getElem?_eq_getElem (by omega)]
    exact List.getElem_mem _
  have cover : ∀ c, c < (P.ext t L k ps mv rv).nc → P.nc ≤ c → (k = false ∧ c < P.nc + ps.length) := fun c hc hn => by
    cases hk : k with
    | true => rw [ncv, hk] at hc; simp at hc; omega
    | false => rw [nck hk] at hc; exact ⟨rfl, hc⟩
  have tkd' : ∀ a c, (P.ext t L k ps mv rv).tk a c = true → (a < P.ne ∧ P.tk a c = true) ∨ (a = P.ne ∧ c ∈ L) := fun a c q => by
    rcases (ext_tk h a c).mp q with q | q
    · exact Or.inl ⟨(h.tkd a c q).1, q⟩
    · exact Or.inr q
  have tog_all : ∀ c d, c < (P.ext t L k ps mv rv).nc → d < (P.ext t L k ps mv rv).nc → P.nc ≤ c → P.nc ≤ d → (P.ext t L k ps mv rv).tog c d := fun c d hc hd hnc hnd => by
    obtain ⟨hk, h1⟩ := cover c hc hnc
    obtain ⟨-, h2⟩ := cover d hd hnd
    exact ext_tog_both h hF hk hnc h1 hnd h2
  refine ⟨?_, ?_, ?_, ?_, ?_, ?_, ?_, ?_, ?_, ?_, ?_, ?_, ?_, ?_⟩
  · intro a c q
    show a < P.ne + 1 ∧ c < (P.ext t L k ps mv rv).nc
    rcases tkd' a c q with ⟨h1, h2⟩ | ⟨rfl, h2⟩
    · have := h.tkd a c h2; omega
    · have := hF.dom c h2; omega
  · intro c a q
    show a < P.ne + 1 ∧ c < (P.ext t L k ps mv rv).nc
    by_cases hc : c < P.nc
    · have := h.mkd c a (old c a q hc); omega
    · obtain ⟨hk, h1, rfl⟩ := new c a q (by omega)
      rw [nck hk]; omega
  · intro a c b q hb
    have hc : c < P.nc := by
      rcases tkd' a c q with ⟨-, h2⟩ | ⟨-, h2⟩
      · exact (h.tkd a c h2).2
      · exact hF.dom c h2
    have hb' := old c b hb hc
    rcases tkd' a c q with ⟨-, h2⟩ | ⟨rfl, h2⟩
    · exact h.lt a c b h2 hb'
    · exact (h.mkd c b hb').1
  · intro a f
    by_cases ha : a < P.ne
    · rw [csold a f ha, h.csd a f]
      constructor
      · rintro ⟨-, q⟩
        refine ⟨Nat.lt_succ_of_lt ha, q.imp id ?_⟩
        rintro ⟨c, b, h1, h2, h3⟩
        have hb := (h.mkd c b h2).1
        refine ⟨c, b, (tkold a c ha).trans h1, ?_, (csold b f hb).trans h3⟩
        show (if c < P.nc then P.mo c else _) = _
        rw [if_pos (h.tkd a c h1).2]; exact h2
      · rintro ⟨-, q⟩
        refine ⟨ha, q.imp id ?_⟩
        rintro ⟨c, b, h1, h2, h3⟩
        rw [tkold a c ha] at h1
        have h2' := old c b h2 (h.tkd a c h1).2
        exact ⟨c, b, h1, h2', (csold b f (h.mkd c b h2').1).symm.trans h3⟩
    · by_cases e : a = P.ne
      · subst e
        rw [ext_cs_new]
        constructor
        · intro q
          refine ⟨Nat.lt_succ_self _, q.imp id ?_⟩
          rintro ⟨x, hx, b, hb, hf⟩
          refine ⟨x, b, (tknew x).mpr hx, ?_, (csold b f (h.mkd x b hb).1).trans hf⟩
          show (if x < P.nc then P.mo x else _) = _
          rw [if_pos (hF.dom x hx)]; exact hb
        · rintro ⟨-, q⟩
          refine q.imp id ?_
          rintro ⟨c, b, h1, h2, h3⟩
          have hc := (tknew c).mp h1
          have hb := old c b h2 (hF.dom c hc)
          exact ⟨c, hc, b, hb, (csold b f (h.mkd c b hb).1).symm.trans h3⟩
      · constructor
        · intro q
          have q : (if a < P.ne then P.cs a f else (decide (a = P.ne) && _)) = true := q
          rw [if_neg ha] at q
          simp [e] at q
        · rintro ⟨q, -⟩
          have q : a < P.ne + 1 := q
          omega
  · intro a x y hx hy
    rcases tkd' a x hx with ⟨h1, h2⟩ | ⟨rfl, h2⟩
    · rcases tkd' a y hy with ⟨-, h3⟩ | ⟨h3, -⟩
      · exact (ext_tog_old h (h.tkd a x h2).2 (h.tkd a y h3).2).mpr (h.ttog a x y h2 h3)
      · omega
    · rcases tkd' _ y hy with ⟨h3, -⟩ | ⟨-, h3⟩
      · omega
      · exact (ext_tog_old h (hF.dom x h2) (hF.dom y h3)).mpr (hF.tog x h2 y h3)
  · intro c hc
    by_cases hn : c < P.nc
    · exact (ext_tog_old h hn hn).mpr (h.self c hn)
    · exact tog_all c c hc hc (by omega) (by omega)
  · intro a ha
    by_cases hn : a < P.ne
    · obtain ⟨x, hx⟩ := h.ne0 a hn
      exact ⟨x, (tkold a x hn).trans hx⟩
    · have ha : a < P.ne + 1 := ha
      have : a = P.ne := by omega
      subst this
      obtain ⟨x, hx⟩ := List.exists_mem_of_ne_nil _ hF.ne0
      exact ⟨x, (tknew x).mpr hx⟩
  · -- no two of one place stand together
    have half : ∀ c d, c < (P.ext t L k ps mv rv).nc → d < P.nc → P.nc ≤ c → (P.ext t L k ps mv rv).tog c d → (P.ext t L k ps mv rv).pl c ≠ (P.ext t L k ps mv rv).pl d := by
      intro c d hc hd hn ht e
      obtain ⟨hk, h1⟩ := cover c hc hn
      have q := hR hk d hd ((ext_tog_new h hF hk hn h1 hd).mp ht)
      have := (psm _).mp (plin c hn h1)
      rw [e, plold d hd, q] at this
      exact absurd this.2 (by decide)
    intro c d hc hd hne ht
    by_cases h1 : c < P.nc
    · by_cases h2 : d < P.nc
      · rw [plold c h1, plold d h2]
        exact h.safe c d h1 h2 hne ((ext_tog_old h h1 h2).mp ht)
      · exact fun e => half d c hd h1 (by omega) ht.symm e.symm
    · by_cases h2 : d < P.nc
      · exact half c d hc h2 (by omega) ht
      · obtain ⟨-, q1⟩ := cover c hc (by omega)
        obtain ⟨-, q2⟩ := cover d hd (by omega)
        rw [plnew c (by omega), plnew d (by omega), List.getD_eq_getElem?_getD, List.getD_eq_getElem?_getD, List.getElem?_eq_getElem (by omega), List.getElem?_eq_getElem (by omega)]
        intro e
        have := (List.getElem_inj psn).mp (by simpa using e)
        omega
  · intro c a q
    show (if a < P.ne then P.ct a else k) = false
    by_cases hc : c < P.nc
    · have q' := old c a q hc
      rw [if_pos (h.mkd c a q').1]; exact h.nct c a q'
    · obtain ⟨hk, -, rfl⟩ := new c a q (by omega)
      rw [if_neg (Nat.lt_irrefl _)]; exact hk
  · intro a ha hct p
    by_cases hn : a < P.ne
    · have hct' : P.ct a = false := by
        have : (if a < P.ne then P.ct a else k) = false := hct
        rwa [if_pos hn] at this
      have htr : (P.ext t L k ps mv rv).tr a = P.tr a := by show (if a < P.ne then _ else _) = _; rw [if_pos hn]
      rw [htr, ← h.post a hn hct' p]
      constructor
      · rintro ⟨c, hm, rfl⟩
        by_cases hc : c < P.nc
        · exact ⟨c, old c a hm hc, (plold c hc).symm⟩
        · have := (new c a hm (by omega)).2.2; omega
      · rintro ⟨c, hm, rfl⟩
        have hc := (h.mkd c a hm).2
        exact ⟨c, by show (if c < P.nc then P.mo c else _) = _; rw [if_pos hc]; exact hm, plold c hc⟩
    · have ha : a < P.ne + 1 := ha
      have e : a = P.ne := by omega
      subst e
      have hk : k = false := by
        have : (if P.ne < P.ne then P.ct P.ne else k) = false := hct
        rwa [if_neg (Nat.lt_irrefl _)] at this
      have htr : (P.ext t L k ps mv rv).tr P.ne = t := by show (if P.ne < P.ne then _ else _) = _; rw [if_neg (Nat.lt_irrefl _)]
      rw [htr, ← psm p]
      constructor
      · rintro ⟨c, hm, rfl⟩
        by_cases hc : c < P.nc
        · have := (h.mkd c _ (old c _ hm hc)).1; omega
        · exact plin c (by omega) (new c _ hm (by omega)).2.1
      · intro hp
        obtain ⟨i, hi, e⟩ := List.mem_iff_getElem.mp hp
        refine ⟨P.nc + i, ?_, ?_⟩
        · show (if P.nc + i < P.nc then _ else if k = false ∧ P.nc + i < P.nc + ps.length then some P.ne else none) = _
          rw [if_neg (by omega), if_pos ⟨hk, by omega⟩]
        · rw [plnew _ (by omega), List.getD_eq_getElem?_getD]
          have : P.nc + i - P.nc = i := by omega
          rw [this, List.getElem?_eq_getElem hi, e]; rfl
  · intro a ha p
    by_cases hn : a < P.ne
    · have htr : (P.ext t L k ps mv rv).tr a = P.tr a := by show (if a < P.ne then _ else _) = _; rw [if_pos hn]
      rw [htr, ← h.pre a hn p]
      constructor
      · rintro ⟨x, hx, rfl⟩
        rw [tkold a x hn] at hx
        exact ⟨x, hx, (plold x (h.tkd a x hx).2).symm⟩
      · rintro ⟨x, hx, rfl⟩
        exact ⟨x, (tkold a x hn).trans hx, plold x (h.tkd a x hx).2⟩
    · have ha : a < P.ne + 1 := ha
      have e : a = P.ne := by omega
      subst e
      have htr : (P.ext t L k ps mv rv).tr P.ne = t := by show (if P.ne < P.ne then _ else _) = _; rw [if_neg (Nat.lt_irrefl _)]
      rw [htr, ← hF.pre p]
      constructor
      · rintro ⟨x, hx, rfl⟩
        have hx := (tknew x).mp hx
        exact ⟨x, hx, (plold x (hF.dom x hx)).symm⟩
      · rintro ⟨x, hx, rfl⟩
        exact ⟨x, (tknew x).mpr hx, plold x (hF.dom x hx)⟩
  · intro p
    rw [← h.init p]
    constructor
    · rintro ⟨c, hc, hm, rfl⟩
      by_cases hn : c < P.nc
      · have hm : (if c < P.nc then P.mo c else _) = none := hm
        rw [if_pos hn] at hm
        exact ⟨c, hn, hm, (plold c hn).symm⟩
      · obtain ⟨hk, h1⟩ := cover c hc (by omega)
        have hm : (if c < P.nc then P.mo c else if k = false ∧ c < P.nc + ps.length then some P.ne else none) = none := hm
        rw [if_neg hn, if_pos ⟨hk, h1⟩] at hm
        cases hm
    · rintro ⟨c, hc, hm, rfl⟩
      exact ⟨c, by omega, by show (if c < P.nc then P.mo c else _) = _; rw [if_pos hc]; exact hm, plold c hc⟩
  · intro c hc
    by_cases hn : c < P.nc
    · rw [plold c hn]; exact h.pl8 c hn
    · obtain ⟨-, h1⟩ := cover c hc (by omega)
      exact ((psm _).mp (plin c (by omega) h1)).1
  · intro a ha
    show (if a < P.ne then P.tr a else t) < N.nz
    split
    · rename_i hn; exact h.tr8 a hn
    · exact hF.tz
end EXT2
