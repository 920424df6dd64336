/-! THE CLASS's MESSAGES in closed form -/
theorem X21 : (nI 21 : Int32) = 21 := rfl
theorem X22 : (nI 22 : Int32) = 22 := rfl
theorem FX6_copy_60_l {s q : Nat} {c : mD} {r : Nat → Nat → Nat} (hs : isX s 6) (hq : isX q 6) (hn : s ≠ q) : ∀ (n k : Nat), k ≤ 8 → 8 - k < n → FX6_copy_60 n s q k (fil c (s + 1) 0 k (c (q + 1)), r) = (fil c (s + 1) 0 8 (c (q + 1)), r) ∧ DX6_copy_60 n s q k (fil c (s + 1) 0 k (c (q + 1)), r) := by
  intro n
  induction n with
  | zero => intro k _ h; omega
  | succ n ih =>
    intro k hk hn2
    by_cases h : 8 ≤ k
    · have e : k = 8 := by omega
      subst e
      rw [FX6_copy_60, if_pos h]
      exact ⟨rfl, by decide, fun _ => trivial, fun z => absurd h z⟩
    · obtain ⟨h1, h2⟩ := ih (k + 1) (by omega) (by omega)
      have e := fil_s (m := c) (q := s + 1) (lo := 0) (k := k) (g := c (q + 1))
      rw [Nat.zero_add] at e
      rw [FX6_copy_60, if_neg h]
      dsimp only
      rw [fil_q (by omega), e]
      refine ⟨h1, by omega, fun z => absurd z h, fun _ => ⟨hs, hq, by omega, by omega, ?_⟩⟩
      dsimp only
      rw [fil_q (by omega), e]
      exact h2
/-- the five fields of a message copied -/
def xCp5 (s q : Nat) (c : mD) : mD := ab_up (ab_up (ab_up (ab_up (ab_up c s 1 (c q 1)) s 2 (c q 2)) s 3 (c q 3)) s 4 (c q 4)) s 5 (c q 5)
def xCp (s q : Nat) (c : mD) : mD := if c q 2 = 21 ∨ c q 2 = 22 then fil (xCp5 s q c) (s + 1) 0 8 (c (q + 1)) else xCp5 s q c
theorem FX6_copy_eq {s q : Nat} {x : xD} (hs : isX s 6) (hq : isX q 6) (hn : s ≠ q) (hn1 : s ≠ q + 1) : FX6_copy s q x = (xCp s q x.1, x.2) ∧ DX6_copy s q x := by
  have n' : ∀ {a j : Nat} {v : Int32} {c : mD}, ab_up c s a v q j = c q j := fun {a j v c} => ab_up_ne (Ne.symm hn)
  have e2 : ab_up (ab_up (ab_up (ab_up (ab_up x.1 s 1 (x.1 q 1)) s 2 (x.1 q 2)) s 3 (x.1 q 3)) s 4 (x.1 q 4)) s 5 (x.1 q 5) s 2 = x.1 q 2 := by
    rw [ab_up_nj (by decide), ab_up_nj (by decide), ab_up_nj (by decide), ab_up_eq]
  have hr : xCp5 s q x.1 (q + 1) = x.1 (q + 1) := by
    funext j
    rw [xCp5, ab_up_ne (Ne.symm hn1), ab_up_ne (Ne.symm hn1), ab_up_ne (Ne.symm hn1), ab_up_ne (Ne.symm hn1), ab_up_ne (Ne.symm hn1)]
  have lp := FX6_copy_60_l (c := xCp5 s q x.1) (r := x.2) hs hq hn 9 0 (by decide) (by decide)
  rw [fil_0, hr] at lp
  have e0 : ab_up (ab_up (ab_up (ab_up (ab_up x.1 s 1 (x.1 q 1)) s 2 (x.1 q 2)) s 3 (x.1 q 3)) s 4 (x.1 q 4)) s 5 (x.1 q 5) = xCp5 s q x.1 := rfl
  rw [FX6_copy, DX6_copy]
  dsimp only
  simp only [n']
  rw [e2, e0]
  by_cases h1 : x.1 q 2 = 21
  · rw [X21, if_pos h1, xCp, if_pos (Or.inl h1)]
    exact ⟨lp.1, hq, hs, fun _ => lp.2, fun z => absurd h1 z⟩
  · by_cases h2 : x.1 q 2 = 22
    · rw [X21, X22, if_neg h1, if_pos h2, xCp, if_pos (Or.inr h2)]
      exact ⟨lp.1, hq, hs, fun z => absurd z h1, fun _ => ⟨fun _ => lp.2, fun z => absurd h2 z⟩⟩
    · rw [X21, X22, if_neg h1, if_neg h2, xCp, if_neg (fun z => z.elim h1 h2)]
      exact ⟨rfl, hq, hs, fun z => absurd z h1, fun _ => ⟨fun z => absurd z h2, fun _ => trivial⟩⟩
theorem xCp5_o {s q a j : Nat} {c : mD} (h : a ≠ s) : xCp5 s q c a j = c a j := by
  rw [xCp5, ab_up_ne h, ab_up_ne h, ab_up_ne h, ab_up_ne h, ab_up_ne h]
theorem xCp_o {s q a j : Nat} {c : mD} (h : a ≠ s) (h1 : a ≠ s + 1) : xCp s q c a j = c a j := by
  rw [xCp]
  by_cases hc : c q 2 = 21 ∨ c q 2 = 22
  · rw [if_pos hc, fil_q h1, xCp5_o h]
  · rw [if_neg hc, xCp5_o h]
theorem xCp_s {s q j : Nat} {c : mD} (h : 1 ≤ j) (h5 : j ≤ 5) : xCp s q c s j = c q j := by
  have e : xCp5 s q c s j = c q j := by
    rcases (show j = 1 ∨ j = 2 ∨ j = 3 ∨ j = 4 ∨ j = 5 by omega) with rfl | rfl | rfl | rfl | rfl <;> simp [xCp5, ab_up]
  rw [xCp]
  by_cases hc : c q 2 = 21 ∨ c q 2 = 22
  · rw [if_pos hc, fil_q (by omega), e]
  · rw [if_neg hc, e]
theorem xCp_n {s q i : Nat} {c : mD} (hc : c q 2 = 21 ∨ c q 2 = 22) (hi : i < 8) : xCp s q c (s + 1) i = c (q + 1) i := by
  rw [xCp, if_pos hc, fil_in (Nat.zero_le _) (by omega), Nat.sub_zero]
-- the messages' places
def xm (x : xD) (p k : Nat) : Nat := x.2 (8 + 28 * p) k
def rowsOK (r : Nat → Nat → Nat) : Prop := ∀ p, p < 12 → (∀ k, k < 12 → ∃ i, i < 12 ∧ r (8 + 28 * p) k = 9 + 28 * p + 2 * i) ∧ ∀ k l, k < 12 → l < 12 → r (8 + 28 * p) k = r (8 + 28 * p) l → k = l
theorem isX_msg : ∀ p, p < 12 → ∀ i, i < 12 → isX (9 + 28 * p + 2 * i) 6 := by decide +kernel
theorem isX_xm {x : xD} (h : rowsOK x.2) {p k : Nat} (hp : p < 12) (hk : k < 12) : isX (xm x p k) 6 := by
  obtain ⟨i, hi, e⟩ := (h p hp).1 k hk
  rw [xm, e]
  exact isX_msg p hp i hi
/-- the same message, here and there; fk: what the driver was asked for (numbers of a 22 count only for a fetch) -/
def eqM (fk : Int32) (c : mD) (q : Nat) (g : Nat → Int32) : Prop := c q 1 = g 0 ∧ c q 2 = g 1 ∧ c q 3 = g 2 ∧ c q 4 = g 3 ∧ c q 5 = g 4 ∧ ((g 1 = 21 ∨ (g 1 = 22 ∧ fk = 20)) → ∀ i, i < 8 → c (q + 1) i = g (5 + i))
theorem eqM.congr {fk : Int32} {c c' : mD} {q : Nat} {g g' : Nat → Int32} (h : eqM fk c q g) (h1 : ∀ j, 1 ≤ j → j ≤ 5 → c' q j = c q j) (h2 : ∀ i, i < 8 → c' (q + 1) i = c (q + 1) i) (h3 : ∀ i, i < 13 → g' i = g i) : eqM fk c' q g' := by
  obtain ⟨a1, a2, a3, a4, a5, a6⟩ := h
  refine ⟨by rw [h1 1 (by omega) (by omega), h3 0 (by omega)]; exact a1, by rw [h1 2 (by omega) (by omega), h3 1 (by omega)]; exact a2, by rw [h1 3 (by omega) (by omega), h3 2 (by omega)]; exact a3, by rw [h1 4 (by omega) (by omega), h3 3 (by omega)]; exact a4, by rw [h1 5 (by omega) (by omega), h3 4 (by omega)]; exact a5, fun h i hi => ?_⟩
  rw [h3 1 (by omega)] at h
  rw [h2 i hi, h3 (5 + i) (by omega)]
  exact a6 h i hi
/-- part p's inbox is the same here and there -/
def boxR (x : xD) (m : mD) (p : Nat) : Prop := ∃ M, M ≤ 12 ∧ m 2 p = nI M ∧ x.1 (7 + 28 * p) 1 = nI M ∧ ∀ k, k < M → eqM (m 0 40) x.1 (xm x p k) (fun i => m 1 (13 * (12 * p + k) + i))
