/-! FILES, III: REMOVE -/
theorem Fremoves_23_l {m : mD} {g f : Nat} (hf : f ≤ 48) (h1 : ∀ j, j < f → ¬ m 14 j = nI g) (h2 : f < 48 → m 14 f = nI g) (hg : g < 16) (hD : ¬ f < 48 → Dremoves_59 49 (nI g) (nI 4 * nI g) (ab_up m 16 g (nI 0))) : ∀ (n k : Nat), k ≤ f → f - k < n → Fremoves_23 n (nI g) k m = (if f < 48 then (-7, m) else Fremoves_59 49 (nI g) (nI 4 * nI g) (ab_up m 16 g (nI 0))) ∧ Dremoves_23 n (nI g) k m := by
  have hc : (nI g).toNatClampNeg = g := nI_clamp (by omega)
  intro n
  induction n with
  | zero => intro k _ h; omega
  | succ n ih =>
    intro k hk hn
    rw [Fremoves_23, Dremoves_23, hc]
    by_cases e : 48 ≤ k
    · have ef : ¬ f < 48 := by omega
      have d := hD ef
      rw [if_pos e, if_neg ef]
      exact ⟨rfl, by omega, fun _ => ⟨nI_pos (by omega), hg, d⟩, fun z => absurd e z⟩
    · rw [if_neg e]
      by_cases hkf : k = f
      · subst hkf
        have c := h2 (by omega)
        rw [if_pos c, if_pos (show k < 48 by omega)]
        exact ⟨rfl, by omega, fun z => absurd z e, fun _ => ⟨by omega, fun _ => trivial, fun z => absurd c z⟩⟩
      · have c := h1 k (by omega)
        obtain ⟨i1, i2⟩ := ih (k + 1) (by omega) (by omega)
        rw [if_neg c]
        exact ⟨i1, by omega, fun z => absurd z e, fun _ => ⟨by omega, fun z => absurd z c, fun _ => i2⟩⟩
theorem anybody_l {x : xD} {m : mD} {g f : Nat} (h : R3 x m) (hf : f ≤ 48) (h1 : ∀ j, j < f → ¬ m 14 j = nI g) (h2 : f < 48 → m 14 f = nI g) (h16 : 16 ≤ f) : ∀ (n k : Nat), k + 16 ≤ f → f - (k + 16) < n → FX7_anybodyHas_2 n (nI g) k x = (if f < 48 then nI 1 else nI 0) ∧ DX7_anybodyHas_2 n (nI g) k x := by
  have ee : ∀ k, k < 32 → x.1 354 k = m 14 (k + 16) := fun k hk => by
    have q := (rOpe_of h (k / 4) (k % 4) (by omega) (by omega)).1
    rw [show 4 * (k / 4) + k % 4 = k by omega, show 4 * (k / 4 + 4) + k % 4 = k + 16 by omega] at q
    exact q
  intro n
  induction n with
  | zero => intro k _ h; omega
  | succ n ih =>
    intro k hk hn
    rw [FX7_anybodyHas_2, DX7_anybodyHas_2]
    by_cases e : 32 ≤ k
    · rw [if_pos e, if_neg (show ¬ f < 48 by omega)]
      exact ⟨rfl, by omega, fun _ => trivial, fun z => absurd e z⟩
    · rw [if_neg e, ee k (by omega)]
      by_cases hkf : k + 16 = f
      · have c : m 14 (k + 16) = nI g := by rw [hkf]; exact h2 (by omega)
        rw [if_pos c, if_pos (show f < 48 by omega)]
        exact ⟨rfl, by omega, fun z => absurd z e, fun _ => ⟨by omega, fun _ => trivial, fun z => absurd c z⟩⟩
      · have c := h1 (k + 16) (by omega)
        obtain ⟨i1, i2⟩ := ih (k + 1) (by omega) (by omega)
        rw [if_neg c]
        exact ⟨i1, by omega, fun z => absurd z e, fun _ => ⟨by omega, fun z => absurd z c, fun _ => i2⟩⟩
def Frl (g : Nat) : Nat → Nat → mD → mD
  | 0, _, m => m
  | n + 1, b, m => if m 18 (4 * g + b) < 0 then Frl g n (b + 1) m else Frl g n (b + 1) (ab_up (ab_up m 19 ((m 18 (4 * g + b)).toNatClampNeg) (nI 0)) 18 (4 * g + b) (-1))
theorem Frl_no {g : Nat} : ∀ (n b : Nat) (m : mD), (∀ k, b ≤ k → k < b + n → m 18 (4 * g + k) < 0) → Frl g n b m = m := by
  intro n
  induction n with
  | zero => intros; rfl
  | succ n ih =>
    intro b m h
    rw [Frl, if_pos (h b (by omega) (by omega)), ih (b + 1) m (fun k h1 h2 => h k (by omega) (by omega))]
theorem Frl_o {g : Nat} : ∀ (n b : Nat) (m : mD) (a j : Nat), ¬ a = 18 → ¬ a = 19 → Frl g n b m a j = m a j := by
  intro n
  induction n with
  | zero => intros; rfl
  | succ n ih =>
    intro b m a j h1 h2
    rw [Frl]
    by_cases c : m 18 (4 * g + b) < 0
    · rw [if_pos c, ih _ _ _ _ h1 h2]
    · rw [if_neg c, ih _ _ _ _ h1 h2, ab_up_ne h1, ab_up_ne h2]
theorem ab_up_comm {m : mD} {q i q2 i2 : Nat} {v v2 : Int32} (h : q ≠ q2) : ab_up (ab_up m q i v) q2 i2 v2 = ab_up (ab_up m q2 i2 v2) q i v := by
  funext a j
  by_cases e1 : a = q ∧ j = i
  · obtain ⟨rfl, rfl⟩ := e1
    rw [ab_up_ne h, ab_up_eq, ab_up_eq]
  · rw [ab_up_na (q := q) e1]
    by_cases e2 : a = q2 ∧ j = i2
    · obtain ⟨rfl, rfl⟩ := e2
      rw [ab_up_eq, ab_up_eq]
    · rw [ab_up_na e2, ab_up_na e2, ab_up_na e1]
def rng18 (m : mD) : Prop := ∀ i, i < 64 → m 18 i = -1 ∨ ∃ B, B < 24 ∧ m 18 i = nI B
theorem rng18.up {m : mD} {B k : Nat} (h : rng18 m) : rng18 (ab_up (ab_up m 19 B (nI 0)) 18 k (-1)) := by
  intro i hi
  by_cases e : i = k
  · subst e; rw [ab_up_eq]; exact Or.inl rfl
  · rw [ab_up_nj e, ab_up_ne (by decide)]; exact h i hi
theorem Fremoves_59_l {g : Nat} (hg : g < 16) : ∀ (n b F : Nat) (m : mD), rng18 m → b + n = 4 → n < F → Fremoves_59 F (nI g) (nI (4 * g + b)) (ab_up m 16 g (nI 0)) = (nI 0, ab_up (Frl g n b m) 16 g (nI 0)) ∧ Dremoves_59 F (nI g) (nI (4 * g + b)) (ab_up m 16 g (nI 0)) := by
  have e4 : nI 4 * nI g + nI 4 = nI (4 * g + 4) := by rw [pk_mul, nI_add]
  intro n
  induction n with
  | zero =>
    intro b F m hr hb hF
    obtain ⟨F, rfl⟩ : ∃ n', F = n' + 1 := ⟨F - 1, by omega⟩
    have c : nI (4 * g + 4) ≤ nI (4 * g + b) := nI_le (by omega) (by omega)
    rw [Fremoves_59, Dremoves_59, e4, if_pos c, Frl]
    exact ⟨rfl, fun _ => trivial, fun z => absurd c z⟩
  | succ n ih =>
    intro b F m hr hb hF
    obtain ⟨F, rfl⟩ : ∃ n', F = n' + 1 := ⟨F - 1, by omega⟩
    have c : ¬ nI (4 * g + 4) ≤ nI (4 * g + b) := nI_ge (by omega) (by omega)
    have hc : (nI (4 * g + b)).toNatClampNeg = 4 * g + b := nI_clamp (by omega)
    have p0 : ¬ nI (4 * g + b) < 0 := nI_pos (by omega)
    have en : nI (4 * g + b) + 1 = nI (4 * g + (b + 1)) := nI_1 (4 * g + b)
    have e18 : ab_up m 16 g (nI 0) 18 (4 * g + b) = m 18 (4 * g + b) := ab_up_ne (by decide)
    rw [Fremoves_59, Dremoves_59, e4, if_neg c, hc, en, e18, Frl]
    by_cases c2 : m 18 (4 * g + b) < 0
    · obtain ⟨i1, i2⟩ := ih (b + 1) F m hr (by omega) (by omega)
      rw [if_pos c2, if_pos c2]
      exact ⟨i1, fun z => absurd z c, fun _ => ⟨p0, by omega, fun _ => i2, fun z => absurd c2 z⟩⟩
    · obtain ⟨B, hB, eB⟩ : ∃ B, B < 24 ∧ m 18 (4 * g + b) = nI B := by
        rcases hr (4 * g + b) (by omega) with z | z
        · exact absurd (by rw [z]; decide) c2
        · exact z
      have hcB : (nI B).toNatClampNeg = B := nI_clamp (by omega)
      rw [if_neg c2, if_neg c2, eB, hcB]
      obtain ⟨i1, i2⟩ := ih (b + 1) F (ab_up (ab_up m 19 B (nI 0)) 18 (4 * g + b) (-1)) hr.up (by omega) (by omega)
      have ec : ab_up (ab_up (ab_up m 16 g (nI 0)) 19 B (nI 0)) 18 (4 * g + b) (-1) = ab_up (ab_up (ab_up m 19 B (nI 0)) 18 (4 * g + b) (-1)) 16 g (nI 0) := by
        rw [ab_up_comm (q := 16) (q2 := 19) (by decide), ab_up_comm (q := 16) (q2 := 18) (by decide)]
      dsimp only
      rw [ec]
      exact ⟨i1, fun z => absurd z c, fun _ => ⟨p0, by omega, fun z => absurd z (nI_pos (by omega)), fun _ => ⟨p0, by omega, nI_pos (by omega), hB, p0, by omega, i2⟩⟩⟩
/-- a block given back -/
theorem release_rel {x : xD} {m : mD} {B g b : Nat} (h : R3 x m) (hB : B < 24) (hg : g < 16) (hb : b < 4) : DX4_release (nI B) x ∧ R3 (FX4_release (nI B) x) (ab_up (ab_up m 19 B (nI 0)) 18 (4 * g + b) (-1)) ∧ ∀ i, (FX4_release (nI B) x).1 350 i = x.1 350 i := by
  have hc : (nI B).toNatClampNeg = B := nI_clamp (by omega)
  have c0 : ¬ nI B < 0 := nI_pos (by omega)
  have c24 : ¬ nI 24 ≤ nI B := nI_ge hB (by decide)
  obtain ⟨t1, t2, t3, t4, t5⟩ := rTab_of h
  have d : DX4_release (nI B) x := ⟨fun _ => trivial, fun _ => ⟨fun _ => trivial, fun _ => ⟨c0, by rw [hc]; exact hB, fun _ => trivial, fun _ => ⟨c0, by rw [hc]; exact hB, trivial⟩⟩⟩⟩
  refine ⟨d, ?_⟩
  obtain ⟨r1, r2, b1, b2, b3, b4, b5, b6, b7, b8⟩ := h
  have mo : ∀ q j, ¬ q = 18 → ¬ q = 19 → ab_up (ab_up m 19 B (nI 0)) 18 (4 * g + b) (-1) q j = m q j := fun q j e1 e2 => by rw [ab_up_ne e1, ab_up_ne e2]
  have m18 : ∀ i b2, i < 16 → b2 < 4 → ¬ ab_up (ab_up m 19 B (nI 0)) 18 (4 * g + b) (-1) 18 (4 * i + b2) < 0 → ab_up (ab_up m 19 B (nI 0)) 18 (4 * g + b) (-1) 18 (4 * i + b2) = m 18 (4 * i + b2) := fun i b2 hi hb2 z => by
    by_cases e : 4 * i + b2 = 4 * g + b
    · rw [e, ab_up_eq] at z
      exact absurd (by decide) z
    · rw [ab_up_nj e, ab_up_ne (by decide)]
  rw [FX4_release, if_neg c0, if_neg c24, hc, t3 B hB]
  by_cases c : m 19 B = 0
  · rw [if_pos c]
    have es : ab_up m 19 B (nI 0) = m := ab_up_self (c.trans nI00.symm)
    obtain ⟨c1, c2⟩ := RMH.rest (x' := x) (m' := ab_up (ab_up m 19 B (nI 0)) 18 (4 * g + b) (-1)) r1 r2 rfl (fun _ _ _ _ => rfl) (fun q j hq => mo q j (by omega) (by omega)) (fun j hj => mo 0 j (by omega) (by omega))
    refine ⟨⟨c1, c2, b1, b2, b3, ?_, b5, b6, b7, b8⟩, fun _ => rfl⟩
    rw [es] at m18 ⊢
    show (∀ i, i < 16 → x.1 349 i = m 16 i) ∧ (∀ i, i < 16 → m 16 i = 1 → x.1 350 i = m 17 i ∧ ∀ b2, b2 < 4 → ¬ ab_up m 18 (4 * g + b) (-1) 18 (4 * i + b2) < 0 → x.1 351 (4 * i + b2) = ab_up m 18 (4 * g + b) (-1) 18 (4 * i + b2)) ∧ (∀ i, i < 24 → x.1 352 i = m 19 i) ∧ x.1 348 4 = nI (cnt (fun i => decide (m 16 i = 1)) 16) ∧ x.1 348 5 = nI (cnt (fun i => decide (m 19 i = 0)) 24)
    refine ⟨t1, fun i hi hth => ⟨(t2 i hi hth).1, fun b2 hb2 z => ?_⟩, t3, t4, t5⟩
    have e := m18 i b2 hi hb2 z
    rw [e] at z ⊢
    exact (t2 i hi hth).2 b2 hb2 z
  · rw [if_neg c]
    have e5 : ab_up x.1 352 B (nI 0) 348 5 = x.1 348 5 := ab_up_ne (by decide)
    dsimp only
    rw [e5]
    obtain ⟨c1, c2⟩ := RMH.rest (x' := (ab_up (ab_up x.1 352 B (nI 0)) 348 5 (x.1 348 5 + nI 1), x.2)) (m' := ab_up (ab_up m 19 B (nI 0)) 18 (4 * g + b) (-1)) r1 r2 rfl (fun q j _ hq => by show ab_up _ _ _ _ _ _ = _; rw [ab_up_ne (by omega), ab_up_ne (by omega)]) (fun q j hq => mo q j (by omega) (by omega)) (fun j hj => mo 0 j (by omega) (by omega))
    refine ⟨⟨c1, c2, b1, b2, b3, ?_, b5, b6, b7, b8⟩, fun i => by rw [ab_up_ne (by decide), ab_up_ne (by decide)]⟩
    have m19 : ∀ i, ab_up (ab_up m 19 B (nI 0)) 18 (4 * g + b) (-1) 19 i = ab_up m 19 B (nI 0) 19 i := fun i => ab_up_ne (by decide)
    have hcnt : cnt (fun i => decide (ab_up m 19 B (nI 0) 19 i = 0)) 24 = cnt (fun i => decide (m 19 i = 0)) 24 + 1 := by
      refine cnt_add (f := B) (fun i hi => ?_) ?_ ?_ 24 hB
      · show decide (ab_up m 19 B (nI 0) 19 i = 0) = decide (m 19 i = 0)
        rw [ab_up_nj hi]
      · show decide (m 19 B = 0) = false
        exact decide_eq_false c
      · show decide (ab_up m 19 B (nI 0) 19 B = 0) = true
        rw [ab_up_eq]; decide
    show (∀ i, i < 16 → x.1 349 i = m 16 i) ∧ (∀ i, i < 16 → m 16 i = 1 → x.1 350 i = m 17 i ∧ ∀ b2, b2 < 4 → ¬ ab_up (ab_up m 19 B (nI 0)) 18 (4 * g + b) (-1) 18 (4 * i + b2) < 0 → x.1 351 (4 * i + b2) = ab_up (ab_up m 19 B (nI 0)) 18 (4 * g + b) (-1) 18 (4 * i + b2)) ∧ (∀ i, i < 24 → ab_up x.1 352 B (nI 0) 352 i = ab_up m 19 B (nI 0) 19 i) ∧ x.1 348 4 = nI (cnt (fun i => decide (m 16 i = 1)) 16) ∧ x.1 348 5 + nI 1 = nI (cnt (fun i => decide (ab_up m 19 B (nI 0) 19 i = 0)) 24)
    refine ⟨t1, fun i hi hth => ⟨(t2 i hi hth).1, fun b2 hb2 z => ?_⟩, fun i hi => ?_, t4, by rw [hcnt, t5, nI_inc]⟩
    · have e := m18 i b2 hi hb2 z
      rw [e] at z ⊢
      exact (t2 i hi hth).2 b2 hb2 z
    · by_cases e : i = B
      · subst e; rw [ab_up_eq, ab_up_eq]
      · rw [ab_up_nj e, ab_up_nj e]; exact t3 i hi
/-- a file no longer there -/
theorem gone_rel {x : xD} {m : mD} {g : Nat} (h : R3 x m) (hg : g < 16) (ht : m 16 g = 1) : R3 (ab_up (ab_up x.1 349 g (nI 0)) 348 4 (x.1 348 4 - nI 1), x.2) (ab_up m 16 g (nI 0)) := by
  obtain ⟨t1, t2, t3, t4, t5⟩ := rTab_of h
  obtain ⟨r1, r2, b1, b2, b3, b4, b5, b6, b7, b8⟩ := h
  obtain ⟨c1, c2⟩ := RMH.rest (x' := (ab_up (ab_up x.1 349 g (nI 0)) 348 4 (x.1 348 4 - nI 1), x.2)) (m' := ab_up m 16 g (nI 0)) r1 r2 rfl (fun q j _ hq => by show ab_up _ _ _ _ _ _ = _; rw [ab_up_ne (by omega), ab_up_ne (by omega)]) (fun q j hq => ab_up_ne (by omega)) (fun j hj => ab_up_ne (by omega))
  refine ⟨c1, c2, b1, b2, b3, ?_, b5, b6, b7, b8⟩
  have hcnt : cnt (fun i => decide (m 16 i = 1)) 16 = cnt (fun i => decide (ab_up m 16 g (nI 0) 16 i = 1)) 16 + 1 := by
    refine cnt_add (f := g) (fun i hi => ?_) ?_ ?_ 16 hg
    · show decide (m 16 i = 1) = decide (ab_up m 16 g (nI 0) 16 i = 1)
      rw [ab_up_nj hi]
    · show decide (ab_up m 16 g (nI 0) 16 g = 1) = false
      rw [ab_up_eq]; decide
    · show decide (m 16 g = 1) = true
      rw [ht]; decide
  show (∀ i, i < 16 → ab_up x.1 349 g (nI 0) 349 i = ab_up m 16 g (nI 0) 16 i) ∧ (∀ i, i < 16 → ab_up m 16 g (nI 0) 16 i = 1 → x.1 350 i = m 17 i ∧ ∀ b2, b2 < 4 → ¬ m 18 (4 * i + b2) < 0 → x.1 351 (4 * i + b2) = m 18 (4 * i + b2)) ∧ (∀ i, i < 24 → x.1 352 i = m 19 i) ∧ x.1 348 4 - nI 1 = nI (cnt (fun i => decide (ab_up m 16 g (nI 0) 16 i = 1)) 16) ∧ x.1 348 5 = nI (cnt (fun i => decide (m 19 i = 0)) 24)
  refine ⟨fun i hi => ?_, fun i hi hth => ?_, t3, ?_, t5⟩
  · by_cases e : i = g
    · subst e; rw [ab_up_eq, ab_up_eq]
    · rw [ab_up_nj e, ab_up_nj e]; exact t1 i hi
  · by_cases e : i = g
    · subst e; rw [ab_up_eq] at hth; exact absurd hth (by decide)
    · rw [ab_up_nj e] at hth; exact t2 i hi hth
  · rw [t4, hcnt, pk_sub (by omega), Nat.add_sub_cancel]
theorem discard_l {g S : Nat} (hg : g < 16) (hS : S ≤ 32) : ∀ (n b F : Nat) (x : xD) (m : mD), R3 x m → b + n = 4 → n < F → m 16 g = 1 → m 17 g = nI S → (∀ k, b ≤ k → k < 4 → 8 * k < S → ∃ B, B < 24 ∧ m 18 (4 * g + k) = nI B) → (∀ k, b ≤ k → k < 4 → S ≤ 8 * k → m 18 (4 * g + k) < 0) → DX4_discard_11 F (nI g) b x ∧ R3 (FX4_discard_11 F (nI g) b x) (ab_up (Frl g n b m) 16 g (nI 0)) := by
  have hc : (nI g).toNatClampNeg = g := nI_clamp (by omega)
  have pg : ¬ nI g < 0 := nI_pos (by omega)
  intro n
  induction n with
  | zero =>
    intro b F x m h hb hF ht _ _ _
    obtain ⟨F, rfl⟩ : ∃ n', F = n' + 1 := ⟨F - 1, by omega⟩
    have e : 4 ≤ b := by omega
    have G := gone_rel h hg ht
    have e4 : ab_up x.1 349 g (nI 0) 348 4 = x.1 348 4 := ab_up_ne (by decide)
    rw [FX4_discard_11, DX4_discard_11, if_pos e, hc, Frl]
    refine ⟨⟨by omega, fun _ => ⟨pg, hg, trivial⟩, fun z => absurd e z⟩, ?_⟩
    dsimp only
    rw [e4]
    exact G
  | succ n ih =>
    intro b F x m h hb hF ht h17 hA hN
    obtain ⟨F, rfl⟩ : ∃ n', F = n' + 1 := ⟨F - 1, by omega⟩
    have e : ¬ 4 ≤ b := by omega
    have e350 : x.1 350 g = nI S := (((rTab_of h).2.1 g hg ht).1).trans h17
    rw [FX4_discard_11, DX4_discard_11, if_neg e, hc, e350]
    by_cases c : S ≤ 8 * b
    · have c' : nI S ≤ nI (b * 8) := nI_le (by omega) (by omega)
      have G := gone_rel h hg ht
      have e4 : ab_up x.1 349 g (nI 0) 348 4 = x.1 348 4 := ab_up_ne (by decide)
      rw [if_pos c', Frl_no (n + 1) b m (fun k h1 h2 => hN k h1 (by omega) (by omega))]
      refine ⟨⟨by omega, fun z => absurd z e, fun _ => ⟨pg, hg, fun _ => ⟨pg, hg, trivial⟩, fun z => absurd c' z⟩⟩, ?_⟩
      dsimp only
      rw [e4]
      exact G
    · have c' : ¬ nI S ≤ nI (b * 8) := nI_ge (by omega) (by omega)
      obtain ⟨B, hB, eB⟩ := hA b (by omega) (by omega) (by omega)
      have hcB : (nI B).toNatClampNeg = B := nI_clamp (by omega)
      have n18 : ¬ m 18 (4 * g + b) < 0 := by rw [eB]; exact nI_pos (by omega)
      have e351 : x.1 351 (4 * g + b) = nI B := (((rTab_of h).2.1 g hg ht).2 b (by omega) n18).trans eB
      have ei : nI g * nI 4 + nI b = nI (4 * g + b) := by rw [pk_mul, nI_add, Nat.mul_comm]
      have hci : (nI (4 * g + b)).toNatClampNeg = 4 * g + b := nI_clamp (by omega)
      obtain ⟨d1, d2, d3⟩ := release_rel (g := g) (b := b) h hB hg (by omega)
      rw [if_neg c', ei, hci, e351, Frl, if_neg n18, eB, hcB]
      obtain ⟨i1, i2⟩ := ih (b + 1) F _ _ d2 (by omega) (by omega) (by rw [ab_up_ne (by decide), ab_up_ne (by decide)]; exact ht) (by rw [ab_up_ne (by decide), ab_up_ne (by decide)]; exact h17) (fun k h1 h2 h3 => by rw [ab_up_nj (by omega), ab_up_ne (by decide)]; exact hA k (by omega) h2 h3) (fun k h1 h2 h3 => by rw [ab_up_nj (by omega), ab_up_ne (by decide)]; exact hN k (by omega) h2 h3)
      exact ⟨⟨by omega, fun z => absurd z e, fun _ => ⟨pg, hg, fun z => absurd z c', fun _ => ⟨nI_pos (by omega), by omega, d1, i1⟩⟩⟩, i2⟩
/-- sizes and blocks: what FILES keeps (while it doesn't wait) -/
def iSiz (m : mD) : Prop := ∀ i, i < 16 → m 16 i = 1 → ∃ S, S ≤ 32 ∧ m 17 i = nI S ∧ (∀ b, b < 4 → 8 * b < S → ¬ m 18 (4 * i + b) < 0) ∧ (m 0 35 = 0 → ∀ b, b < 4 → S ≤ 8 * b → m 18 (4 * i + b) < 0)
theorem remove_rel {x : xD} {m : mD} {a : Int32} (h : R3 x m) (hi : iThe m) (hl : ∀ k, k < 16 → m 14 k = -1) (hr : rng18 m) (hz : iSiz m) (hw : m 0 35 = 0) : DX3_removeFile a x ∧ Dremoves a m ∧ (FX3_removeFile a x).1 = (Fremoves a m).1 ∧ R3 (FX3_removeFile a x).2 (Fremoves a m).2 ∧ ∀ q j, ¬ q = 16 → ¬ q = 18 → ¬ q = 19 → (Fremoves a m).2 q j = m q j := by
  rw [FX3_removeFile, DX3_removeFile, Fremoves, Dremoves]
  by_cases c0 : a < 0
  · have hh : FX4_has a x = 0 := by rw [FX4_has, if_pos c0]; exact nI00
    rw [if_pos c0, if_pos hh]
    exact ⟨⟨⟨fun _ => trivial, fun z => absurd c0 z⟩, fun _ => trivial, fun z => absurd hh z⟩, ⟨fun _ => trivial, fun z => absurd c0 z⟩, rfl, h, fun _ _ _ _ _ => rfl⟩
  · rw [if_neg c0]
    by_cases c15 : nI 15 < a
    · have c16 : nI 16 ≤ a := by
        apply Classical.byContradiction
        intro z
        obtain ⟨g, hg, rfl⟩ := range_of (N := 16) (by decide) c0 z
        have := (nI_ltI (by decide) (by omega)).mp c15
        omega
      have hh : FX4_has a x = 0 := by rw [FX4_has, if_neg c0, if_pos c16]; exact nI00
      rw [if_pos c15, if_pos hh]
      exact ⟨⟨⟨fun _ => trivial, fun _ => ⟨fun _ => trivial, fun z => absurd c16 z⟩⟩, fun _ => trivial, fun z => absurd hh z⟩, ⟨fun z => absurd z c0, fun _ => ⟨fun _ => trivial, fun z => absurd c15 z⟩⟩, rfl, h, fun _ _ _ _ _ => rfl⟩
    · obtain ⟨g, hg, rfl⟩ := range_of (N := 16) (by decide) c0 (fun z => c15 (Int32.lt_of_lt_of_le (by decide) z))
      have hcg : (nI g).toNatClampNeg = g := nI_clamp (by omega)
      obtain ⟨k1, k2⟩ := has_rel h hg
      rw [if_neg c15, hcg, k1]
      rcases hi g hg with t0 | t1
      · rw [if_pos t0, if_pos nI00, if_pos t0]
        exact ⟨⟨k2, fun _ => trivial, fun z => absurd nI00 z⟩, ⟨fun z => absurd z c0, fun _ => ⟨fun z => absurd z c15, fun _ => ⟨c0, hg, fun _ => trivial, fun z => absurd t0 z⟩⟩⟩, rfl, h, fun _ _ _ _ _ => rfl⟩
      · have t0 : ¬ m 16 g = 0 := by rw [t1]; decide
        have hh : ¬ FX4_has (nI g) x = 0 := by rw [k1, if_neg t0]; decide
        obtain ⟨S, hS, e17, hA, hN⟩ := hz g hg t1
        have hA' : ∀ k, 0 ≤ k → k < 4 → 8 * k < S → ∃ B, B < 24 ∧ m 18 (4 * g + k) = nI B := fun k _ h2 h3 => by
          rcases hr (4 * g + k) (by omega) with z | z
          · exact absurd (by rw [z]; decide) (hA k h2 h3)
          · exact z
        obtain ⟨D1, D2⟩ := discard_l hg hS 4 0 5 x m h (by decide) (by decide) t1 e17 hA' (fun k _ h2 h3 => hN hw k h2 h3)
        obtain ⟨M1, M2⟩ := Fremoves_59_l hg 4 0 49 m hr (by decide) (by decide)
        have e40 : nI (4 * g + 0) = nI 4 * nI g := by rw [pk_mul, Nat.add_zero]
        rw [e40] at M1 M2
        obtain ⟨f, hf, f1, f2⟩ := first_ex (fun j => m 14 j = nI g) 48
        have f16 : 16 ≤ f := by
          apply Classical.byContradiction
          intro z
          have e := f2 (by omega)
          rw [hl f (by omega)] at e
          exact nI_ne_m1 g (by omega) e.symm
        obtain ⟨p1, p2⟩ := anybody_l h hf f1 f2 f16 33 0 (by omega) (by omega)
        have p1 : FX7_anybodyHas (nI g) x = (if f < 48 then nI 1 else nI 0) := p1
        have p2 : DX7_anybodyHas (nI g) x := p2
        obtain ⟨q1, q2⟩ := Fremoves_23_l hf f1 f2 hg (fun _ => M2) 49 0 (by omega) (by omega)
        rw [if_neg t0, if_neg nI10, if_neg t0, p1, q1]
        by_cases f48 : f < 48
        · rw [if_pos f48, if_neg nI10, if_pos f48]
          exact ⟨⟨k2, fun z => absurd z nI10, fun _ => ⟨p2, fun z => absurd z nI10, fun _ => trivial⟩⟩, ⟨fun z => absurd z c0, fun _ => ⟨fun z => absurd z c15, fun _ => ⟨c0, hg, fun z => absurd z t0, fun _ => q2⟩⟩⟩, rfl, h, fun _ _ _ _ _ => rfl⟩
        · have ed : FX4_discard (nI g) x = FX4_discard_11 5 (nI g) 0 x := by rw [FX4_discard, if_neg hh]
          have dd : DX4_discard (nI g) x := ⟨k2, fun z => absurd z hh, fun _ => D1⟩
          rw [if_neg f48, if_pos nI00, if_neg f48, M1, ed]
          refine ⟨⟨k2, fun z => absurd z nI10, fun _ => ⟨p2, fun _ => ⟨dd, trivial⟩, fun _ => trivial⟩⟩, ⟨fun z => absurd z c0, fun _ => ⟨fun z => absurd z c15, fun _ => ⟨c0, hg, fun z => absurd z t0, fun _ => q2⟩⟩⟩, rfl, D2, fun q j h1 h2 h3 => ?_⟩
          show ab_up (Frl g 4 0 m) 16 g (nI 0) q j = m q j
          rw [ab_up_ne h1, Frl_o _ _ _ _ _ h2 h3]
