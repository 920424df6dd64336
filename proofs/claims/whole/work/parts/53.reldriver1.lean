/-! THE DRIVER's TURN, I: the first of a kind in an inbox; numbers copied; the reference's loop -/
theorem first_ex (P : Nat → Prop) : ∀ M : Nat, ∃ f, f ≤ M ∧ (∀ j, j < f → ¬ P j) ∧ (f < M → P f) := by
  intro M
  induction M with
  | zero => exact ⟨0, by omega, fun j hj => absurd hj (by omega), fun h => absurd h (by omega)⟩
  | succ M ih =>
    obtain ⟨f, h1, h2, h3⟩ := ih
    by_cases e : f < M
    · exact ⟨f, by omega, h2, fun _ => h3 e⟩
    · by_cases hp : P M
      · exact ⟨M, by omega, fun j hj => h2 j (by omega), fun _ => hp⟩
      · refine ⟨M + 1, by omega, fun j hj => ?_, fun h => absurd h (by omega)⟩
        by_cases ej : j = M
        · rw [ej]; exact hp
        · exact h2 j (by omega)
theorem FX0_firstOf_l {p M f : Nat} {w : Int32} {x : xD} (hp : p < 12) (hr : rowsOK x.2) (hM : M ≤ 12) (hs : x.1 (7 + 28 * p) 1 = nI M) (hf : f ≤ M) (h1 : ∀ j, j < f → ¬ x.1 (xm x p j) 2 = w) (h2 : f < M → x.1 (xm x p f) 2 = w) : ∀ (n k : Nat), k ≤ f → f - k < n → FX0_firstOf_2 n (7 + 28 * p) w k x = (if f < M then nI f else -1) ∧ DX0_firstOf_2 n (7 + 28 * p) w k x := by
  have e8 : 7 + 28 * p + 1 = 8 + 28 * p := by omega
  intro n
  induction n with
  | zero => intro k _ h; omega
  | succ n ih =>
    intro k hk hn
    rw [FX0_firstOf_2, DX0_firstOf_2, hs, e8]
    by_cases hkM : M ≤ k
    · have e : nI M ≤ nI k := nI_le hkM (by omega)
      rw [if_pos e, if_neg (show ¬ f < M by omega)]
      exact ⟨rfl, isX_box hp, fun _ => trivial, fun z => absurd e z⟩
    · have e : ¬ nI M ≤ nI k := nI_ge (by omega) (by omega)
      have hx : isX (x.2 (8 + 28 * p) k) 6 := isX_xm hr hp (by omega)
      rw [if_neg e]
      by_cases hkf : k = f
      · subst hkf
        have hw : x.1 (x.2 (8 + 28 * p) k) 2 = w := h2 (by omega)
        rw [if_pos hw, if_pos (show k < M by omega)]
        exact ⟨rfl, isX_box hp, fun z => absurd z e, fun _ => ⟨by omega, hx, fun _ => trivial, fun z => absurd hw z⟩⟩
      · have hw : ¬ x.1 (x.2 (8 + 28 * p) k) 2 = w := h1 k (by omega)
        obtain ⟨i1, i2⟩ := ih (k + 1) (by omega) (by omega)
        rw [if_neg hw]
        exact ⟨i1, isX_box hp, fun z => absurd z e, fun _ => ⟨by omega, hx, fun z => absurd z hw, fun _ => i2⟩⟩
theorem FX0_firstFor_l {p M f : Nat} {w : Int32} {x : xD} (hp : p < 12) (hr : rowsOK x.2) (hM : M ≤ 12) (hs : x.1 (7 + 28 * p) 1 = nI M) (hf : f ≤ M) (h1 : ∀ j, j < f → ¬ (x.1 (xm x p j) 2 = 0 ∨ ((w >>> (x.1 (xm x p j) 1 &&& 31)) &&& nI 1) = nI 1)) (h2 : f < M → (x.1 (xm x p f) 2 = 0 ∨ ((w >>> (x.1 (xm x p f) 1 &&& 31)) &&& nI 1) = nI 1)) : ∀ (n k : Nat), k ≤ f → f - k < n → FX0_firstFor_2 n (7 + 28 * p) w k x = (if f < M then nI f else -1) ∧ DX0_firstFor_2 n (7 + 28 * p) w k x := by
  have e8 : 7 + 28 * p + 1 = 8 + 28 * p := by omega
  intro n
  induction n with
  | zero => intro k _ h; omega
  | succ n ih =>
    intro k hk hn
    rw [FX0_firstFor_2, DX0_firstFor_2, hs, e8]
    by_cases hkM : M ≤ k
    · have e : nI M ≤ nI k := nI_le hkM (by omega)
      rw [if_pos e, if_neg (show ¬ f < M by omega)]
      exact ⟨rfl, isX_box hp, fun _ => trivial, fun z => absurd e z⟩
    · have e : ¬ nI M ≤ nI k := nI_ge (by omega) (by omega)
      have hx : isX (x.2 (8 + 28 * p) k) 6 := isX_xm hr hp (by omega)
      rw [if_neg e]
      by_cases hkf : k = f
      · subst hkf
        have hw := h2 (by omega)
        rw [if_pos (show k < M by omega)]
        by_cases hz : x.1 (x.2 (8 + 28 * p) k) 2 = 0
        · rw [if_pos hz]
          exact ⟨rfl, isX_box hp, fun z => absurd z e, fun _ => ⟨by omega, hx, fun _ => trivial, fun z => absurd hz z⟩⟩
        · have hw2 := hw.resolve_left hz
          have hw3 : ((w >>> (x.1 (x.2 (8 + 28 * p) k) 1 &&& 31)) &&& nI 1) = nI 1 := hw2
          rw [if_neg hz, if_pos hw3]
          exact ⟨rfl, isX_box hp, fun z => absurd z e, fun _ => ⟨by omega, hx, fun z => absurd z hz, fun _ => ⟨by omega, hx, fun _ => trivial, fun z => absurd hw3 z⟩⟩⟩
      · have hw := h1 k (by omega)
        have hz : ¬ x.1 (x.2 (8 + 28 * p) k) 2 = 0 := fun z => hw (Or.inl z)
        have hw3 : ¬ ((w >>> (x.1 (x.2 (8 + 28 * p) k) 1 &&& 31)) &&& nI 1) = nI 1 := fun z => hw (Or.inr z)
        obtain ⟨i1, i2⟩ := ih (k + 1) (by omega) (by omega)
        rw [if_neg hz, if_neg hw3]
        exact ⟨i1, isX_box hp, fun z => absurd z e, fun _ => ⟨by omega, hx, fun z => absurd z hz, fun _ => ⟨by omega, hx, fun z => absurd z hw3, fun _ => i2⟩⟩⟩
theorem FX6_setNumbers_l {s q G L : Nat} {c : mD} {r : Nat → Nat → Nat} (hs : isX s 6) (hq : isX q 100) (hL : (shX q).2 = L) (hG : G + 8 ≤ L) (hL2 : L ≤ 192) (hn : q ≠ s + 1) : ∀ (n k : Nat), k ≤ 8 → 8 - k < n → FX6_setNumbers_2 n s q (nI G) k (fil c (s + 1) 0 k (fun i => c q (G + i)), r) = (fil c (s + 1) 0 8 (fun i => c q (G + i)), r) ∧ DX6_setNumbers_2 n s q (nI G) k (fil c (s + 1) 0 k (fun i => c q (G + i)), r) := by
  intro n
  induction n with
  | zero => intro k _ h; omega
  | succ n ih =>
    intro k hk hn2
    by_cases h : 8 ≤ k
    · have e : k = 8 := by omega
      subst e
      rw [FX6_setNumbers_2, if_pos h]
      exact ⟨rfl, by decide, fun _ => trivial, fun z => absurd h z⟩
    · obtain ⟨h1, h2⟩ := ih (k + 1) (by omega) (by omega)
      have e := fil_s (m := c) (q := s + 1) (lo := 0) (k := k) (g := fun i => c q (G + i))
      rw [Nat.zero_add] at e
      have ea : nI G + nI k = nI (G + k) := nI_add G k
      have c0 : ¬ nI (G + k) < 0 := nI_pos (by omega)
      have c1 : ¬ nI L ≤ nI (G + k) := nI_ge (by omega) (by omega)
      have cc : (nI (G + k)).toNatClampNeg = G + k := nI_clamp (by omega)
      rw [FX6_setNumbers_2, DX6_setNumbers_2, if_neg h, ea, if_neg c0, hL, if_neg c1, cc]
      dsimp only
      rw [fil_q hn, e]
      exact ⟨h1, by omega, fun z => absurd z h, fun _ => ⟨hs, fun z => absurd z c0, fun _ => ⟨hq, fun z => absurd z c1, fun _ => ⟨c0, by omega, by omega, by omega, h2⟩⟩⟩⟩
theorem FX6_setNumbers_eq {s q G L : Nat} {x : xD} (hs : isX s 6) (hq : isX q 100) (hL : (shX q).2 = L) (hG : G + 8 ≤ L) (hL2 : L ≤ 192) (hn : q ≠ s + 1) : FX6_setNumbers s q (nI G) x = (fil x.1 (s + 1) 0 8 (fun i => x.1 q (G + i)), x.2) ∧ DX6_setNumbers s q (nI G) x := by
  have h := FX6_setNumbers_l (c := x.1) (r := x.2) hs hq hL hG hL2 hn 9 0 (by omega) (by omega)
  rw [fil_0] at h
  exact h
theorem FX2_begin_66_l {q : Nat} {c : mD} {r : Nat → Nat → Nat} (hq : isX q 6) (hn : q + 1 ≠ 346) : ∀ (n k : Nat), k ≤ 8 → 8 - k < n → FX2_begin_66 n q k (fil c 346 0 k (c (q + 1)), r) = (fil c 346 0 8 (c (q + 1)), r) ∧ DX2_begin_66 n q k (fil c 346 0 k (c (q + 1)), r) := by
  intro n
  induction n with
  | zero => intro k _ h; omega
  | succ n ih =>
    intro k hk hn2
    by_cases h : 8 ≤ k
    · have e : k = 8 := by omega
      subst e
      rw [FX2_begin_66, if_pos h]
      exact ⟨rfl, by decide, fun _ => trivial, fun z => absurd h z⟩
    · obtain ⟨h1, h2⟩ := ih (k + 1) (by omega) (by omega)
      have e := fil_s (m := c) (q := 346) (lo := 0) (k := k) (g := c (q + 1))
      rw [Nat.zero_add] at e
      rw [FX2_begin_66, DX2_begin_66, if_neg h]
      dsimp only
      rw [fil_q hn, e]
      exact ⟨h1, by omega, fun z => absurd z h, fun _ => ⟨hq, by omega, by omega, h2⟩⟩
theorem Fdriver_140_l {m : mD} : ∀ (n k : Nat), k ≤ 8 → 8 - k < n → Fdriver_140 n k (fil m 21 0 k (fun i => m 6 (5 + i))) = fil m 21 0 8 (fun i => m 6 (5 + i)) ∧ Ddriver_140 n k (fil m 21 0 k (fun i => m 6 (5 + i))) := by
  intro n
  induction n with
  | zero => intro k _ h; omega
  | succ n ih =>
    intro k hk hn2
    by_cases h : 8 ≤ k
    · have e : k = 8 := by omega
      subst e
      rw [Fdriver_140, if_pos h]
      exact ⟨rfl, by decide, fun _ => trivial, fun z => absurd h z⟩
    · obtain ⟨h1, h2⟩ := ih (k + 1) (by omega) (by omega)
      have e := fil_s (m := m) (q := 21) (lo := 0) (k := k) (g := fun i => m 6 (5 + i))
      rw [Nat.zero_add] at e
      rw [Fdriver_140, Ddriver_140, if_neg h]
      dsimp only
      rw [fil_q (by decide), e]
      exact ⟨h1, by omega, fun z => absurd z h, fun _ => ⟨by omega, by omega, h2⟩⟩
theorem Fdriver_140_eq {m : mD} : Fdriver_140 13 0 m = fil m 21 0 8 (fun i => m 6 (5 + i)) ∧ Ddriver_140 13 0 m := by
  have h := Fdriver_140_l (m := m) 13 0 (by omega) (by omega)
  rw [fil_0] at h
  exact h
/-- the reference's turn when no 40 is there -/
def Fbeg (z8 : mD) : mD :=
  if (z8 6 1) = (nI (20)) then
    let m9 := ab_up z8 0 27 (z8 6 1)
    let m10 := ab_up m9 0 28 (m9 6 2)
    Fdriver_140 13 0 m10
  else
    if (z8 6 1) = (nI (21)) then
      let m11 := ab_up z8 0 27 (z8 6 1)
      let m12 := ab_up m11 0 28 (m11 6 2)
      Fdriver_140 13 0 m12
    else
      z8
def Fdr0 (m : mD) : mD := if (m 0 27) ≤ 0 then (if (nI ((m 2 1).toNatClampNeg)) ≤ 0 then m else Fbeg (FtakeOut 1 0 m)) else Fworks m
def Ddr0 (m : mD) : Prop := ((m 0 27) ≤ 0 → ¬ (nI ((m 2 1).toNatClampNeg)) ≤ 0 → DtakeOut 1 0 m) ∧ (¬ (m 0 27) ≤ 0 → Dworks m)
theorem Fbeg_no {z : mD} (h : ¬ (z 6 1 = nI 20 ∨ z 6 1 = nI 21)) : Fbeg z = z := by
  rw [Fbeg, if_neg (fun e => h (Or.inl e)), if_neg (fun e => h (Or.inr e))]
theorem beg_eq {z : mD} {v : Int32} : Fdriver_140 13 0 (ab_up (ab_up z 0 27 v) 0 28 ((ab_up z 0 27 v) 6 2)) = fil (ab_up (ab_up z 0 27 v) 0 28 (z 6 2)) 21 0 8 (fun i => z 6 (5 + i)) := by
  rw [Fdriver_140_eq.1]
  have e1 : (ab_up z 0 27 v) 6 2 = z 6 2 := ab_up_ne (by decide)
  rw [e1]
  have e2 : (fun i => (ab_up (ab_up z 0 27 v) 0 28 (z 6 2)) 6 (5 + i)) = (fun i => z 6 (5 + i)) := by
    funext i
    rw [ab_up_ne (by decide), ab_up_ne (by decide)]
  rw [e2]
theorem Fbeg_yes {z : mD} (h : z 6 1 = nI 20 ∨ z 6 1 = nI 21) : Fbeg z = fil (ab_up (ab_up z 0 27 (z 6 1)) 0 28 (z 6 2)) 21 0 8 (fun i => z 6 (5 + i)) := by
  rw [Fbeg]
  by_cases k1 : z 6 1 = nI 20
  · rw [if_pos k1]
    exact beg_eq
  · rw [if_neg k1, if_pos (h.resolve_left k1)]
    exact beg_eq
