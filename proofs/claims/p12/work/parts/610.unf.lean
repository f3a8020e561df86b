/-! Ranks, the order of what may come next, and the whole unfolding as a relation. -/
def Px.beh (P : Px) (L : List Nat) (f : Nat) : Prop := ∃ x, x ∈ L ∧ P.bh x f
noncomputable def Px.cU (P : Px) (t : Nat) (L : List Nat) (u : Nat) : Nat := (if u = t then 1 else 0) + ((List.range P.ne).filter (fun f => @decide (P.beh L f ∧ P.tr f = u) (Classical.propDecidable _))).length
noncomputable def Px.sz (P : Px) (L : List Nat) : Nat := ((List.range P.ne).filter (fun f => @decide (P.beh L f) (Classical.propDecidable _))).length
def rowF (g : Nat → Nat) : Nat → Nat
  | 0 => 0
  | u + 1 => rowF g u * 32 + (31 - g u)
noncomputable def Px.rkv (P : Px) (x : Nat × List Nat) : Nat := (P.sz x.2 + 1) * 32 ^ 8 + rowF (P.cU x.1 x.2) 8
def lexlt : List Nat → List Nat → Prop
  | a :: l, b :: m => a < b ∨ (a = b ∧ lexlt l m)
  | _, _ => False
theorem lexlt_asymm : ∀ {l m : List Nat}, lexlt l m → ¬ lexlt m l
  | [], _, h => h.elim
  | _ :: _, [], h => h.elim
  | a :: l, b :: m, h => fun q => by
    rcases h with h | ⟨rfl, h⟩
    · rcases q with q | ⟨q, -⟩ <;> omega
    · rcases q with q | ⟨-, q⟩
      · omega
      · exact lexlt_asymm h q
theorem lexlt_trans : ∀ {l m n : List Nat}, lexlt l m → lexlt m n → lexlt l n
  | [], _, _, h, _ => h.elim
  | _ :: _, [], _, h, _ => h.elim
  | _ :: _, _ :: _, [], _, q => q.elim
  | a :: l, b :: m, c :: n, h, q => by
    rcases h with h | ⟨rfl, h⟩
    · rcases q with q | ⟨rfl, -⟩
      · exact Or.inl (Nat.lt_trans h q)
      · exact Or.inl h
    · rcases q with q | ⟨rfl, q⟩
      · exact Or.inl q
      · exact Or.inr ⟨rfl, lexlt_trans h q⟩
theorem lexlt_total : ∀ {l m : List Nat}, l.length = m.length → l = m ∨ lexlt l m ∨ lexlt m l
  | [], [], _ => Or.inl rfl
  | [], _ :: _, h => by cases h
  | _ :: _, [], h => by cases h
  | a :: l, b :: m, h => by
    rcases Nat.lt_trichotomy a b with q | rfl | q
    · exact Or.inr (Or.inl (Or.inl q))
    · rcases lexlt_total (l := l) (m := m) (by simpa using h) with rfl | r | r
      · exact Or.inl rfl
      · exact Or.inr (Or.inl (Or.inr ⟨rfl, r⟩))
      · exact Or.inr (Or.inr (Or.inr ⟨rfl, r⟩))
    · exact Or.inr (Or.inr (Or.inl q))
theorem chF_sorted {pr : Nat → Bool} {pl : Nat → Nat} {co : Nat → Nat → Bool} {nc : Nat} (r : Nat) (op : Nat → Bool) : (chF pr pl co nc r op).Pairwise lexlt := by
  induction r generalizing op with
  | zero => simp [chF]
  | succ r ih =>
    simp only [chF]
    split
    · refine List.pairwise_flatMap.mpr ⟨fun c _ => ?_, ?_⟩
      · exact List.pairwise_map.mpr ((ih _).imp (fun {a b} q => Or.inr ⟨rfl, q⟩))
      · have : ((List.range nc).filter (fun c => op c && (pl c == 7 - r))).Pairwise (· < ·) := (List.pairwise_lt_range).filter _
        refine this.imp (fun {a b} hab L hL M hM => ?_)
        obtain ⟨L', -, rfl⟩ := List.mem_map.mp hL
        obtain ⟨M', -, rfl⟩ := List.mem_map.mp hM
        exact Or.inl hab
    · exact ih op
def ltx (x y : Nat × List Nat) : Prop := x.1 < y.1 ∨ (x.1 = y.1 ∧ lexlt x.2 y.2)
theorem ltx_asymm {x y : Nat × List Nat} (h : ltx x y) : ¬ ltx y x := by
  intro q
  rcases h with h | ⟨e, h⟩ <;> rcases q with q | ⟨e', q⟩
  · omega
  · omega
  · omega
  · exact lexlt_asymm h q
theorem ltx_trans {x y z : Nat × List Nat} (h : ltx x y) (q : ltx y z) : ltx x z := by
  rcases h with h | ⟨e, h⟩ <;> rcases q with q | ⟨e', q⟩
  · exact Or.inl (by omega)
  · exact Or.inl (by omega)
  · exact Or.inl (by omega)
  · exact Or.inr ⟨e.trans e', lexlt_trans h q⟩
section ORD
variable {N : Net8} {P : Px}
theorem poss_sorted : (P.poss N).Pairwise ltx := by
  unfold Px.poss Px.posT
  refine List.pairwise_flatMap.mpr ⟨fun t _ => ?_, ?_⟩
  · exact List.pairwise_map.mpr (((chF_sorted 8 _).filter _).imp (fun {a b} q => Or.inr ⟨rfl, q⟩))
  · refine (List.pairwise_lt_range (n := N.nz)).imp (fun {a b} hab x hx y hy => ?_)
    obtain ⟨L, -, rfl⟩ := List.mem_map.mp hx
    obtain ⟨M, -, rfl⟩ := List.mem_map.mp hy
    exact Or.inl hab
theorem poss_total {x y : Nat × List Nat} (hx : x ∈ P.poss N) (hy : y ∈ P.poss N) : x = y ∨ ltx x y ∨ ltx y x := by
  obtain ⟨t, L⟩ := x
  obtain ⟨u, M⟩ := y
  rcases Nat.lt_trichotomy t u with q | rfl | q
  · exact Or.inr (Or.inl (Or.inl q))
  · have h1 := chs_pl (poss_mem.mp hx).2.1
    have h2 := chs_pl (poss_mem.mp hy).2.1
    have : L.length = M.length := by
      have := congrArg List.length (h1.trans h2.symm)
      simpa using this
    rcases lexlt_total this with rfl | r | r
    · exact Or.inl rfl
    · exact Or.inr (Or.inl (Or.inr ⟨rfl, r⟩))
    · exact Or.inr (Or.inr (Or.inr ⟨rfl, r⟩))
  · exact Or.inr (Or.inr (Or.inl q))
/-- x comes before y -/
def Px.bef (P : Px) (x y : Nat × List Nat) : Prop := P.rkv x < P.rkv y ∨ (P.rkv x = P.rkv y ∧ ltx x y)
theorem bef_asymm {x y : Nat × List Nat} (h : P.bef x y) : ¬ P.bef y x := by
  intro q
  rcases h with h | ⟨e, h⟩ <;> rcases q with q | ⟨e', q⟩
  · omega
  · omega
  · omega
  · exact ltx_asymm h q
theorem bef_trans {x y z : Nat × List Nat} (h : P.bef x y) (q : P.bef y z) : P.bef x z := by
  rcases h with h | ⟨e, h⟩ <;> rcases q with q | ⟨e', q⟩
  · exact Or.inl (by omega)
  · exact Or.inl (by omega)
  · exact Or.inl (by omega)
  · exact Or.inr ⟨e.trans e', ltx_trans h q⟩
theorem bef_total {x y : Nat × List Nat} (hx : x ∈ P.poss N) (hy : y ∈ P.poss N) : x = y ∨ P.bef x y ∨ P.bef y x := by
  rcases Nat.lt_trichotomy (P.rkv x) (P.rkv y) with q | q | q
  · exact Or.inr (Or.inl (Or.inl q))
  · rcases poss_total hx hy with r | r | r
    · exact Or.inl r
    · exact Or.inr (Or.inl (Or.inr ⟨q, r⟩))
    · exact Or.inr (Or.inr (Or.inr ⟨q.symm, r⟩))
  · exact Or.inr (Or.inr (Or.inl q))
def Px.best (N : Net8) (P : Px) (x : Nat × List Nat) : Prop := x ∈ P.poss N ∧ ∀ y, y ∈ P.poss N → y = x ∨ P.bef x y
theorem best_uniq {x y : Nat × List Nat} (hx : P.best N x) (hy : P.best N y) : x = y := by
  rcases hx.2 y hy.1 with e | h
  · exact e.symm
  · rcases hy.2 x hx.1 with e | q
    · exact e
    · exact absurd q (bef_asymm h)
/-- the least condition that would stand beside another of its place -/
def Px.rival (N : Net8) (P : Px) (x : Nat × List Nat) : Prop := ∃ d, d < P.nc ∧ (∀ z, z ∈ x.2 → z ≠ d ∧ P.tog z d) ∧ N.po x.1 (P.pl d) = true
/-- the marking behind it -/
noncomputable def Px.mkg (N : Net8) (P : Px) (x : Nat × List Nat) (p : Nat) : Bool := @decide ((P.mrk (P.beh x.2) p ∧ ¬ (p < 8 ∧ N.pr x.1 p = true)) ∨ (p < 8 ∧ N.po x.1 p = true)) (Classical.propDecidable _)
/-- it leads to nothing new -/
noncomputable def Px.cutB (N : Net8) (P : Px) (x : Nat × List Nat) : Bool := @decide ((∀ p, p < 8 → P.mkg N x p = N.fi p) ∨ ∃ a, a < P.ne ∧ (∀ p, p < 8 → P.mg a p = P.mkg N x p) ∧ P.rk a < P.rkv x) (Classical.propDecidable _)
noncomputable def Px.succ (N : Net8) (P : Px) (x : Nat × List Nat) : Px := P.ext x.1 x.2 (P.cutB N x) (plc (N.po x.1)) (P.mkg N x) (P.rkv x)
/-- what an unfolding comes to, from a prefix on: the answer, and the prefix at the end -/
def unfB (N : Net8) (P : Px) (r : Int) (P' : Px) : Prop :=
  (200 < (P.poss N).length ∧ r = -3 ∧ P' = P) ∨ (P.poss N = [] ∧ r = P.ne ∧ P' = P) ∨ (∃ x, (P.poss N).length ≤ 200 ∧ P.best N x ∧ P.rival N x ∧ r = -2 ∧ P' = P) ∨ (∃ x, (P.poss N).length ≤ 200 ∧ P.best N x ∧ ¬ P.rival N x ∧ P.ne = 30 ∧ r = -3 ∧ P' = P) ∨ (∃ x, (P.poss N).length ≤ 200 ∧ P.best N x ∧ ¬ P.rival N x ∧ P.ne ≠ 30 ∧ 60 < (P.succ N x).nc ∧ r = -3 ∧ P' = P)
def unfN (N : Net8) : Nat → Px → Int → Px → Prop
  | 0, P, r, P' => unfB N P r P'
  | n + 1, P, r, P' => ∃ x, (P.poss N).length ≤ 200 ∧ P.best N x ∧ ¬ P.rival N x ∧ P.ne ≠ 30 ∧ (P.succ N x).nc ≤ 60 ∧ unfN N n (P.succ N x) r P'
def Unf (N : Net8) (P : Px) (r : Int) (P' : Px) : Prop := ∃ n, unfN N n P r P'
theorem Unf.many (h : 200 < (P.poss N).length) : Unf N P (-3) P := ⟨0, Or.inl ⟨h, rfl, rfl⟩⟩
theorem Unf.done (h : P.poss N = []) : Unf N P P.ne P := ⟨0, Or.inr (Or.inl ⟨h, rfl, rfl⟩)⟩
theorem Unf.clash {x : Nat × List Nat} (h : (P.poss N).length ≤ 200) (hb : P.best N x) (hr : P.rival N x) : Unf N P (-2) P := ⟨0, Or.inr (Or.inr (Or.inl ⟨x, h, hb, hr, rfl, rfl⟩))⟩
theorem Unf.full {x : Nat × List Nat} (h : (P.poss N).length ≤ 200) (hb : P.best N x) (hr : ¬ P.rival N x) (he : P.ne = 30) : Unf N P (-3) P := ⟨0, Or.inr (Or.inr (Or.inr (Or.inl ⟨x, h, hb, hr, he, rfl, rfl⟩)))⟩
theorem Unf.big {x : Nat × List Nat} (h : (P.poss N).length ≤ 200) (hb : P.best N x) (hr : ¬ P.rival N x) (he : P.ne ≠ 30) (hn : 60 < (P.succ N x).nc) : Unf N P (-3) P := ⟨0, Or.inr (Or.inr (Or.inr (Or.inr ⟨x, h, hb, hr, he, hn, rfl, rfl⟩)))⟩
theorem Unf.step {P' : Px} {x : Nat × List Nat} {r : Int} (h : (P.poss N).length ≤ 200) (hb : P.best N x) (hr : ¬ P.rival N x) (he : P.ne ≠ 30) (hn : (P.succ N x).nc ≤ 60) (hu : Unf N (P.succ N x) r P') : Unf N P r P' := by
  obtain ⟨n, hu⟩ := hu
  exact ⟨n + 1, x, h, hb, hr, he, hn, hu⟩
theorem unfN_ind {M : Px → Int → Px → Prop} (hB : ∀ P r P', unfB N P r P' → M P r P') (hS : ∀ P P' x r, (P.poss N).length ≤ 200 → P.best N x → ¬ P.rival N x → P.ne ≠ 30 → (P.succ N x).nc ≤ 60 → M (P.succ N x) r P' → M P r P') : ∀ n P r P', unfN N n P r P' → M P r P' := by
  intro n
  induction n with
  | zero => exact fun P r P' h => hB P r P' h
  | succ n ih =>
    intro P r P' h
    obtain ⟨x, h1, h2, h3, h4, h5, h6⟩ := h
    exact hS P P' x r h1 h2 h3 h4 h5 (ih _ _ _ h6)
theorem unf_no {x : Nat × List Nat} (h : P.poss N = []) (hb : P.best N x) : False := by
  have := hb.1
  rw [h] at this
  cases this
theorem unfB_det {P1 P2 : Px} {r1 r2 : Int} (a : unfB N P r1 P1) (b : unfB N P r2 P2) : r1 = r2 ∧ P1 = P2 := by
  rcases a with ⟨h, e, f⟩ | ⟨h, e, f⟩ | ⟨x, h, hb, hr, e, f⟩ | ⟨x, h, hb, hr, _, e, f⟩ | ⟨x, h, hb, hr, _, _, e, f⟩ <;> rcases b with ⟨q, e', f'⟩ | ⟨q, e', f'⟩ | ⟨y, q, qb, qr, e', f'⟩ | ⟨y, q, qb, qr, _, e', f'⟩ | ⟨y, q, qb, qr, _, _, e', f'⟩ <;>
  first
  | exact ⟨e.trans e'.symm, f.trans f'.symm⟩
  | omega
  | exact (unf_no h qb).elim
  | exact (unf_no q hb).elim
  | exact absurd h (by rw [q]; simp)
  | exact absurd q (by rw [h]; simp)
  | exact absurd (best_uniq hb qb ▸ hr) qr
  | exact absurd (best_uniq qb hb ▸ qr) hr
theorem unfB_step {P1 : Px} {r1 : Int} {y : Nat × List Nat} (a : unfB N P r1 P1) (q : (P.poss N).length ≤ 200) (qb : P.best N y) (qr : ¬ P.rival N y) (qe : P.ne ≠ 30) (qn : (P.succ N y).nc ≤ 60) : False := by
  rcases a with ⟨h, e, f⟩ | ⟨h, e, f⟩ | ⟨x, h, hb, hr, e, f⟩ | ⟨x, h, hb, hr, he, e, f⟩ | ⟨x, h, hb, hr, he, hn, e, f⟩
  · omega
  · exact unf_no h qb
  · exact absurd (best_uniq hb qb ▸ hr) qr
  · exact qe he
  · rw [best_uniq hb qb] at hn; omega
theorem unfN_det : ∀ n m (P P1 P2 : Px) (r1 r2 : Int), unfN N n P r1 P1 → unfN N m P r2 P2 → r1 = r2 ∧ P1 = P2 := by
  intro n
  induction n with
  | zero =>
    intro m P P1 P2 r1 r2 a b
    cases m with
    | zero => exact unfB_det a b
    | succ m =>
      obtain ⟨x, h1, h2, h3, h4, h5, _⟩ := b
      exact (unfB_step a h1 h2 h3 h4 h5).elim
  | succ n ih =>
    intro m P P1 P2 r1 r2 a b
    obtain ⟨x, h1, h2, h3, h4, h5, h6⟩ := a
    cases m with
    | zero => exact (unfB_step b h1 h2 h3 h4 h5).elim
    | succ m =>
      obtain ⟨y, _, q2, _, _, _, q6⟩ := b
      rw [best_uniq q2 h2] at q6
      exact ih m _ _ _ _ _ h6 q6
theorem Unf.det {P P1 P2 : Px} {r1 r2 : Int} (h : Unf N P r1 P1) (q : Unf N P r2 P2) : r1 = r2 ∧ P1 = P2 := by
  obtain ⟨n, h⟩ := h
  obtain ⟨m, q⟩ := q
  exact unfN_det n m _ _ _ _ _ h q
theorem rival_no {x : Nat × List Nat} (h : ¬ P.rival N x) : ∀ d, d < P.nc → (∀ z, z ∈ x.2 → z ≠ d ∧ P.tog z d) → N.po x.1 (P.pl d) = false := fun d hd hz => by
  cases e : N.po x.1 (P.pl d) with
  | false => rfl
  | true => exact absurd ⟨d, hd, hz, e⟩ h
theorem succ_ok (hN : NetOk N) (h : PxOk N P) {x : Nat × List Nat} (hb : P.best N x) (hr : ¬ P.rival N x) : PxOk N (P.succ N x) := by
  obtain ⟨h1, h2, -⟩ := poss_mem.mp hb.1
  exact ext_ok h (chs_fit hN h h1 h2) (fun _ => rival_no hr)
end ORD
