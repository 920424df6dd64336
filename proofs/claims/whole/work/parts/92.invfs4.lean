/-! THE INVARIANT, XIII: descriptors, OPEN, REMOVE -/
theorem iP4.fly {m : mD} (h : iP4 m) (h35 : m 0 35 = 0) : ∀ i S b, i < 16 → m 16 i = 1 → S ≤ 32 → m 17 i = nI S → b < 4 → S ≤ 8 * b → m 18 (4 * i + b) < 0 := fun i S b hi z hS e hb hle => by
  obtain ⟨-, -, -, -, -, -, -, -, -, a10⟩ := h
  rcases a10 i S b hi z hS e hb hle with y | y
  · exact y
  · rw [h35] at y; exact absurd y.1 (by decide)
/-- a descriptor set -/
theorem iP4.slot {m : mD} {v d : Nat} {f p : Int32} (h : iP4 m) (h35 : m 0 35 = 0) (hv : v < 8) (hd : d < 4) (hf : f = -1 ∨ ∃ g, g < 16 ∧ f = nI g ∧ m 16 g = 1 ∧ ∃ P S, P ≤ S ∧ S ≤ 32 ∧ p = nI P ∧ m 17 g = nI S) : iP4 (ab_up (ab_up m 14 (4 * (v + 4) + d) f) 15 (4 * (v + 4) + d) p) := by
  have fl := h.fly h35
  obtain ⟨a1, a2, a3, a4, a5, a6, a7, a8, a9, a10⟩ := h
  have e14 : ∀ j, (ab_up (ab_up m 14 (4 * (v + 4) + d) f) 15 (4 * (v + 4) + d) p) 14 j = (ab_up m 14 (4 * (v + 4) + d) f) 14 j := fun j => ab_up_ne (by decide)
  refine ⟨fun u e hu he => ?_, fun v2 d2 g2 x1 x2 x3 x4 => ?_, a3, a4, fun k hk => ?_, a6, a7, fun z => absurd (h35.symm.trans z) (by decide), a9, fun i S b hi z hS e hb hle => Or.inl (fl i S b hi z hS e hb hle)⟩
  · rw [e14]
    by_cases c : 4 * (u + 4) + e = 4 * (v + 4) + d
    · rw [c, ab_up_eq]
      rcases hf with z | ⟨g, hg, z, -⟩
      · exact Or.inl z
      · exact Or.inr ⟨g, hg, z⟩
    · rw [ab_up_nj c]; exact a1 u e hu he
  · rw [e14] at x4
    by_cases c : 4 * (v2 + 4) + d2 = 4 * (v + 4) + d
    · rw [c, ab_up_eq] at x4
      rcases hf with z | ⟨g, hg, z, t1, P, S, y1, y2, y3, y4⟩
      · rw [z] at x4; exact absurd x4.symm (nI_ne_m1 g2 (by omega))
      · have eg : g2 = g := (nI_eq (by omega) (by omega)).mp (x4.symm.trans z)
        subst eg
        refine ⟨t1, P, S, y1, y2, ?_, y4⟩
        rw [c, ab_up_eq]; exact y3
    · rw [ab_up_nj c] at x4
      obtain ⟨t1, P, S, y1, y2, y3, y4⟩ := a2 v2 d2 g2 x1 x2 x3 x4
      refine ⟨t1, P, S, y1, y2, ?_, y4⟩
      rw [ab_up_nj c, ab_up_ne (by decide)]; exact y3
  · rw [e14, ab_up_nj (by omega)]; exact a5 k hk
theorem iP4.close {m : mD} {v d : Nat} (h : iP4 m) (h35 : m 0 35 = 0) (hv : v < 8) (hd : d < 4) : iP4 (ab_up m 14 (4 * (v + 4) + d) (-1)) := by
  have K := h.slot (f := -1) (p := m 15 (4 * (v + 4) + d)) h35 hv hd (Or.inl rfl)
  have e : ab_up (ab_up m 14 (4 * (v + 4) + d) (-1)) 15 (4 * (v + 4) + d) (m 15 (4 * (v + 4) + d)) = ab_up m 14 (4 * (v + 4) + d) (-1) := ab_up_self (ab_up_ne (by decide))
  rw [e] at K
  exact K
theorem iP4.seek {m : mD} {v d g P S : Nat} (h : iP4 m) (h35 : m 0 35 = 0) (hv : v < 8) (hd : d < 4) (hg : g < 16) (e14 : m 14 (4 * (v + 4) + d) = nI g) (t1 : m 16 g = 1) (e17 : m 17 g = nI S) (hS : S ≤ 32) (hP : P ≤ S) : iP4 (ab_up m 15 (4 * (v + 4) + d) (nI P)) := by
  have K := h.slot (f := nI g) (p := nI P) h35 hv hd (Or.inr ⟨g, hg, rfl, t1, P, S, hP, hS, rfl, e17⟩)
  have e : ab_up m 14 (4 * (v + 4) + d) (nI g) = m := ab_up_self e14
  rw [e] at K
  exact K
theorem iP4.make {m : mD} {g : Nat} (h : iP4 m) (h35 : m 0 35 = 0) (hg : g < 16) (h0 : m 16 g = 0) (hc : cnt (fun i => decide (m 16 i = 1)) 16 < 8) : iP4 (ab_up (ab_up m 16 g (nI 1)) 17 g (nI 0)) := by
  have fl := h.fly h35
  obtain ⟨a1, a2, a3, a4, a5, a6, a7, a8, a9, a10⟩ := h
  have e16 : ∀ j, (ab_up (ab_up m 16 g (nI 1)) 17 g (nI 0)) 16 j = (ab_up m 16 g (nI 1)) 16 j := fun j => ab_up_ne (by decide)
  have z16 : ∀ i, ¬ i = g → (ab_up (ab_up m 16 g (nI 1)) 17 g (nI 0)) 16 i = m 16 i := fun i hi => by rw [e16, ab_up_nj hi]
  have z17 : ∀ i, ¬ i = g → (ab_up (ab_up m 16 g (nI 1)) 17 g (nI 0)) 17 i = m 17 i := fun i hi => by rw [ab_up_nj hi, ab_up_ne (by decide)]
  have z18 : ∀ i, (ab_up (ab_up m 16 g (nI 1)) 17 g (nI 0)) 18 i = m 18 i := fun i => by rw [ab_up_ne (by decide), ab_up_ne (by decide)]
  have g16 : (ab_up (ab_up m 16 g (nI 1)) 17 g (nI 0)) 16 g = nI 1 := by rw [e16, ab_up_eq]
  have g17 : (ab_up (ab_up m 16 g (nI 1)) 17 g (nI 0)) 17 g = nI 0 := ab_up_eq
  refine ⟨a1, fun v2 d2 g2 x1 x2 x3 x4 => ?_, fun i hi => ?_, ⟨fun i hi z b hb => ?_, ?_⟩, a5, a6, fun i hi z => ?_, fun z => absurd (h35.symm.trans z) (by decide), a9, fun i S b hi z hS e hb hle => Or.inl ?_⟩
  · obtain ⟨t1, P, S, y1, y2, y3, y4⟩ := a2 v2 d2 g2 x1 x2 x3 x4
    have ne : ¬ g2 = g := fun y => by rw [y, h0] at t1; exact absurd t1 (by decide)
    exact ⟨(z16 g2 ne).trans t1, P, S, y1, y2, y3, (z17 g2 ne).trans y4⟩
  · by_cases c : i = g
    · subst c; rw [g16]; exact Or.inr rfl
    · rw [z16 i c]; exact a3 i hi
  · by_cases c : i = g
    · subst c; rw [g16] at z; exact absurd z (by decide)
    · rw [z16 i c] at z; rw [z18]; exact a4.1 i hi z b hb
  · have e : (fun i => decide ((ab_up (ab_up m 16 g (nI 1)) 17 g (nI 0)) 16 i = 1)) = (fun i => decide (ab_up m 16 g (nI 1) 16 i = 1)) := by funext i; rw [e16]
    rw [e, cnt_add (p := fun i => decide (m 16 i = 1)) (f := g) (fun i hi => by rw [ab_up_nj hi]) (by show decide (m 16 g = 1) = false; rw [h0]; decide) (by show decide (ab_up m 16 g (nI 1) 16 g = 1) = true; rw [ab_up_eq]; decide) 16 hg]
    omega
  · by_cases c : i = g
    · subst c
      exact ⟨0, by decide, g17, fun b hb hlt => absurd hlt (by omega), fun _ b hb _ => by rw [z18]; exact a4.1 i hi h0 b hb⟩
    · rw [z16 i c] at z
      obtain ⟨S, y1, y2, y3, y4⟩ := a7 i hi z
      exact ⟨S, y1, (z17 i c).trans y2, fun b hb hlt => by rw [z18]; exact y3 b hb hlt, fun y b hb hle => by rw [z18]; exact y4 y b hb hle⟩
  · rw [z18]
    by_cases c : i = g
    · subst c; exact a4.1 i hi h0 b hb
    · rw [z16 i c] at z
      rw [z17 i c] at e
      exact fl i S b hi z hS e hb hle
theorem Inv.opens {S v : Nat} {m : mD} {a : Int32} (h : Inv S m) (h35 : m 0 35 = 0) (hv : v < 8) : Inv S (Fopens (v + 4) a m).2 := by
  rw [Fopens]
  by_cases c0 : a < 0
  · rw [if_pos c0]; exact h
  · rw [if_neg c0]
    by_cases c15 : a ≤ nI 15
    · obtain ⟨g, hg, rfl⟩ := range_of (N := 16) (by decide) c0 (fun w => Int32.lt_irrefl (Int32.lt_of_lt_of_le (Int32.lt_of_le_of_lt c15 (by decide)) w))
      have hcg : (nI g).toNatClampNeg = g := nI_clamp (by omega)
      obtain ⟨f, hf, f1, f2⟩ := first_ex (fun j => m 14 (4 * (v + 4) + j) < 0) 4
      obtain ⟨g1, g2⟩ := files_4 h.2.2.2.2.2.1 17 0 (by decide) (by decide)
      have g1 : FfilesThere m = nI (cnt (fun i => decide (m 16 i = 1)) 16) := g1
      have g2 : DfilesThere m := g2
      rw [if_pos c15, (Fopens_14_l (a := nI g) hv c0 (by rw [hcg]; exact hg) g2 hf f1 f2 5 0 (by omega) (by omega)).1]
      by_cases hf4 : f < 4
      · rw [if_pos hf4, Fopf, hcg]
        by_cases t0 : m 16 g = 0
        · rw [if_pos t0, g1]
          have hle := h.2.2.2.2.2.2.1.2
          by_cases c8 : cnt (fun i => decide (m 16 i = 1)) 16 = 8
          · rw [if_pos (by rw [c8])]; exact h
          · rw [if_neg (fun z => c8 ((nI_eq (by omega) (by decide)).mp z))]
            have M := h.2.2.2.make h35 hg t0 (by omega)
            have K := M.slot (v := v) (d := f) (f := nI g) (p := nI 0) h35 hv hf4 (Or.inr ⟨g, hg, rfl, by rw [ab_up_ne (by decide), ab_up_eq]; rfl, 0, 0, Nat.le_refl _, by decide, rfl, ab_up_eq⟩)
            exact h.p4 (fun q j hq => by
              show ab_up (ab_up (ab_up (ab_up m 16 g (nI 1)) 17 g (nI 0)) 14 (4 * (v + 4) + f) (nI g)) 15 (4 * (v + 4) + f) (nI 0) q j = _
              rw [ab_up_ne (by omega), ab_up_ne (by omega), ab_up_ne (by omega), ab_up_ne (by omega)]) (fun j _ => rfl) K
        · have t1 := (h.2.2.2.2.2.1 g hg).resolve_left t0
          obtain ⟨S', b1, b2, -⟩ := h.2.2.2.size hg t1
          have K := h.2.2.2.slot (v := v) (d := f) (f := nI g) (p := nI 0) h35 hv hf4 (Or.inr ⟨g, hg, rfl, t1, 0, S', Nat.zero_le _, b1, rfl, b2⟩)
          rw [if_neg t0]
          exact h.p4 (fun q j hq => by
            show ab_up (ab_up m 14 (4 * (v + 4) + f) (nI g)) 15 (4 * (v + 4) + f) (nI 0) q j = _
            rw [ab_up_ne (by omega), ab_up_ne (by omega)]) (fun j _ => rfl) K
      · rw [if_neg hf4]; exact h
    · rw [if_neg c15]; exact h
theorem Frl_18 {g : Nat} : ∀ (n b : Nat) (m : mD), b + n = 4 → rng18 m → rng18 (Frl g n b m) ∧ (∀ j, (j < 4 * g + b ∨ 4 * g + 4 ≤ j) → Frl g n b m 18 j = m 18 j) ∧ (∀ k, b ≤ k → k < 4 → Frl g n b m 18 (4 * g + k) < 0) := by
  intro n
  induction n with
  | zero => intro b m hb hr; exact ⟨hr, fun _ _ => rfl, fun k h1 h2 => by omega⟩
  | succ n ih =>
    intro b m hb hr
    rw [Frl]
    by_cases c : m 18 (4 * g + b) < 0
    · obtain ⟨i1, i2, i3⟩ := ih (b + 1) m (by omega) hr
      rw [if_pos c]
      refine ⟨i1, fun j hj => i2 j (by omega), fun k h1 h2 => ?_⟩
      by_cases e : k = b
      · subst e; rw [i2 _ (by omega)]; exact c
      · exact i3 k (by omega) h2
    · obtain ⟨i1, i2, i3⟩ := ih (b + 1) (ab_up (ab_up m 19 ((m 18 (4 * g + b)).toNatClampNeg) (nI 0)) 18 (4 * g + b) (-1)) (by omega) hr.up
      rw [if_neg c]
      refine ⟨i1, fun j hj => ?_, fun k h1 h2 => ?_⟩
      · rw [i2 j (by omega), ab_up_nj (by omega), ab_up_ne (by decide)]
      · by_cases e : k = b
        · subst e; rw [i2 _ (by omega), ab_up_eq]; decide
        · exact i3 k (by omega) h2
theorem Inv.removes {S : Nat} {m : mD} {a : Int32} (h : Inv S m) (h35 : m 0 35 = 0) : Inv S (Fremoves a m).2 := by
  rw [Fremoves]
  by_cases c0 : a < 0
  · rw [if_pos c0]; exact h
  · rw [if_neg c0]
    by_cases c15 : nI 15 < a
    · rw [if_pos c15]; exact h
    · obtain ⟨g, hg, rfl⟩ := range_of (N := 16) (by decide) c0 (fun z => c15 (Int32.lt_of_lt_of_le (by decide) z))
      have hcg : (nI g).toNatClampNeg = g := nI_clamp (by omega)
      rw [if_neg c15, hcg]
      by_cases t0 : m 16 g = 0
      · rw [if_pos t0]; exact h
      · have fl := h.2.2.2.fly h35
        obtain ⟨a1, a2, a3, a4, a5, a6, a7, a8, a9, a10⟩ := h.2.2.2
        have t1 := (a3 g hg).resolve_left t0
        obtain ⟨M1, M2⟩ := Fremoves_59_l hg 4 0 49 m a6 (by decide) (by decide)
        have e40 : nI (4 * g + 0) = nI 4 * nI g := by rw [pk_mul, Nat.add_zero]
        rw [e40] at M1 M2
        obtain ⟨f, hf, f1, f2⟩ := first_ex (fun j => m 14 j = nI g) 48
        rw [if_neg t0, (Fremoves_23_l hf f1 f2 hg (fun _ => M2) 49 0 (by omega) (by omega)).1]
        by_cases f48 : f < 48
        · rw [if_pos f48]; exact h
        · rw [if_neg f48, M1]
          obtain ⟨r1, r2, r3⟩ := Frl_18 (g := g) 4 0 m (by decide) a6
          have q : ∀ x j, ¬ (x = 16 ∧ j = g) → ¬ x = 18 → ¬ x = 19 → ab_up (Frl g 4 0 m) 16 g (nI 0) x j = m x j := fun x j x1 x2 x3 => by rw [ab_up_na x1, Frl_o _ _ _ _ _ x2 x3]
          have q18 : ∀ j, ab_up (Frl g 4 0 m) 16 g (nI 0) 18 j = Frl g 4 0 m 18 j := fun j => ab_up_ne (by decide)
          have q16 : ab_up (Frl g 4 0 m) 16 g (nI 0) 16 g = nI 0 := ab_up_eq
          refine h.p4 (fun x j hx => q x j (by omega) (by omega) (by omega)) (fun j _ => q 0 j (by omega) (by omega) (by omega)) ?_
          show iP4 (ab_up (Frl g 4 0 m) 16 g (nI 0))
          generalize ab_up (Frl g 4 0 m) 16 g (nI 0) = n at *
          have e35 : n 0 35 = 0 := (q 0 35 (by omega) (by omega) (by omega)).trans h35
          refine ⟨fun u e hu he => by rw [q 14 _ (by omega) (by omega) (by omega)]; exact a1 u e hu he, fun v2 d2 g2 x1 x2 x3 x4 => ?_, fun i hi => ?_, ⟨fun i hi z b hb => ?_, ?_⟩, fun k hk => by rw [q 14 _ (by omega) (by omega) (by omega)]; exact a5 k hk, fun i hi => by rw [q18]; exact r1 i hi, fun i hi z => ?_, fun z => ?_, Or.inl e35, fun i S b hi z hS e hb hle => Or.inl ?_⟩
          · rw [q 14 _ (by omega) (by omega) (by omega)] at x4
            have ne : ¬ g2 = g := fun y => f1 (4 * (v2 + 4) + d2) (by omega) (by rw [← y]; exact x4)
            obtain ⟨y0, P, S, y1, y2, y3, y4⟩ := a2 v2 d2 g2 x1 x2 x3 x4
            exact ⟨by rw [q 16 g2 (by omega) (by omega) (by omega)]; exact y0, P, S, y1, y2, by rw [q 15 _ (by omega) (by omega) (by omega)]; exact y3, by rw [q 17 _ (by omega) (by omega) (by omega)]; exact y4⟩
          · by_cases c : i = g
            · subst c; rw [q16]; exact Or.inl nI00
            · rw [q 16 i (by omega) (by omega) (by omega)]; exact a3 i hi
          · by_cases c : i = g
            · subst c; rw [q18]; exact r3 b (by omega) hb
            · rw [q 16 i (by omega) (by omega) (by omega)] at z
              rw [q18, r2 _ (by omega)]; exact a4.1 i hi z b hb
          · have hcnt : cnt (fun i => decide (m 16 i = 1)) 16 = cnt (fun i => decide (n 16 i = 1)) 16 + 1 := by
              refine cnt_add (f := g) (fun i hi => ?_) ?_ ?_ 16 hg
              · show decide (m 16 i = 1) = decide (n 16 i = 1)
                rw [q 16 i (by omega) (by omega) (by omega)]
              · show decide (n 16 g = 1) = false
                rw [q16]; decide
              · show decide (m 16 g = 1) = true
                rw [t1]; decide
            have := a4.2
            omega
          · by_cases c : i = g
            · subst c; rw [q16] at z; exact absurd z (by decide)
            · rw [q 16 i (by omega) (by omega) (by omega)] at z
              obtain ⟨S, y1, y2, y3, y4⟩ := a7 i hi z
              exact ⟨S, y1, by rw [q 17 _ (by omega) (by omega) (by omega)]; exact y2, fun b hb hlt => by rw [q18, r2 _ (by omega)]; exact y3 b hb hlt, fun _ b hb hle => by rw [q18, r2 _ (by omega)]; exact y4 h35 b hb hle⟩
          · rw [e35] at z; exact absurd z (by decide)
          · by_cases c : i = g
            · subst c; rw [q16] at z; exact absurd z (by decide)
            · rw [q 16 i (by omega) (by omega) (by omega)] at z
              rw [q 17 _ (by omega) (by omega) (by omega)] at e
              rw [q18, r2 _ (by omega)]; exact fl i S b hi z hS e hb hle
theorem iP4.copies {va vb : Nat} (hva : va < 8) (hvb : vb < 8) : ∀ (n k : Nat) (m : mD), iP4 m → m 0 35 = 0 → iP4 (Fcopies_2 n (va + 4) (vb + 4) k m) ∧ ∀ q j, ¬ q = 14 → ¬ q = 15 → Fcopies_2 n (va + 4) (vb + 4) k m q j = m q j := by
  intro n
  induction n with
  | zero => intro k m h _; exact ⟨h, fun _ _ _ _ => rfl⟩
  | succ n ih =>
    intro k m h h35
    rw [Fcopies_2]
    by_cases e : 4 ≤ k
    · rw [if_pos e]; exact ⟨h, fun _ _ _ _ => rfl⟩
    · have e15 : ab_up m 14 (4 * (vb + 4) + k) (m 14 (4 * (va + 4) + k)) 15 (4 * (va + 4) + k) = m 15 (4 * (va + 4) + k) := ab_up_ne (by decide)
      rw [if_neg e]
      dsimp only
      rw [e15]
      have K := h.slot (v := vb) (d := k) (f := m 14 (4 * (va + 4) + k)) (p := m 15 (4 * (va + 4) + k)) h35 hvb (by omega) (by
        rcases h.1 va k hva (by omega) with z | ⟨g, hg, z⟩
        · exact Or.inl z
        · obtain ⟨t1, P, S, y1, y2, y3, y4⟩ := h.2.1 va k g hva (by omega) hg z
          exact Or.inr ⟨g, hg, z, t1, P, S, y1, y2, y3, y4⟩)
      obtain ⟨i1, i2⟩ := ih (k + 1) _ K h35
      exact ⟨i1, fun q j h1 h2 => (i2 q j h1 h2).trans (by rw [ab_up_ne h2, ab_up_ne h1])⟩
theorem iP4.closes {va : Nat} (hva : va < 8) : ∀ (n k : Nat) (m : mD), iP4 m → m 0 35 = 0 → iP4 (FclosesAll_2 n (va + 4) k m) ∧ ∀ q j, ¬ q = 14 → FclosesAll_2 n (va + 4) k m q j = m q j := by
  intro n
  induction n with
  | zero => intro k m h _; exact ⟨h, fun _ _ _ => rfl⟩
  | succ n ih =>
    intro k m h h35
    rw [FclosesAll_2]
    by_cases e : 4 ≤ k
    · rw [if_pos e]; exact ⟨h, fun _ _ _ => rfl⟩
    · rw [if_neg e]
      have K := h.close (v := va) (d := k) h35 hva (by omega)
      obtain ⟨i1, i2⟩ := ih (k + 1) _ K h35
      exact ⟨i1, fun q j h1 => (i2 q j h1).trans (ab_up_ne h1)⟩
