/-! disk of the face: where it answers, and where the reference says that it throws -/
theorem dk_x : ∀ b, b < 24 → ∀ k, k < 8 → nI b * nI 8 + nI k = nI (8 * b + k) := by decide +kernel
theorem dk_m : ∀ b, b < 24 → ∀ k, k < 8 → nI 8 * nI b + nI k = nI (8 * b + k) := by decide +kernel
theorem range_of {p : Int32} {N : Nat} (hN : N < 2147483648) (h0 : ¬ p < 0) (h1 : ¬ nI N ≤ p) : ∃ n, n < N ∧ p = nI n := by
  refine ⟨p.toNatClampNeg, ?_, ab_nat h0⟩
  refine Nat.lt_of_not_le (fun z => h1 ?_)
  rw [ab_nat h0]
  exact nI_le z (Int32.toNatClampNeg_lt p)
/-- the class throws there -/
def dThrow (b k : Int32) : Prop := b < 0 ∨ nI 24 ≤ b ∨ k < 0 ∨ nI 8 ≤ k
theorem disk_ok {x : xD} {m : mD} {b k : Int32} (h : R3 x m) (hn : ¬ dThrow b k) : DX10_disk b k x ∧ Ddisk b k m ∧ (FX10_disk b k x).1 = (Fdisk b k m).1 ∧ R3 (FX10_disk b k x).2 (Fdisk b k m).2 ∧ (Fdisk b k m).2 0 0 = 0 := by
  have ht : R3 x (ab_up m 0 0 (nI 0)) := h.thr
  have c1 : ¬ b < 0 := fun z => hn (Or.inl z)
  have c2 : ¬ nI 24 ≤ b := fun z => hn (Or.inr (Or.inl z))
  have c3 : ¬ k < 0 := fun z => hn (Or.inr (Or.inr (Or.inl z)))
  have c4 : ¬ nI 8 ≤ k := fun z => hn (Or.inr (Or.inr (Or.inr z)))
  have c5 : k < nI 8 := Int32.not_le.mp c4
  have e0 : (ab_up m 0 0 (nI 0)) 0 0 ≤ 0 := by rw [ab_up_eq]; decide
  have e00 : (ab_up m 0 0 (nI 0)) 0 0 = 0 := by rw [ab_up_eq]; decide
  have e20 : ∀ j, (ab_up m 0 0 (nI 0)) 20 j = m 20 j := fun _ => rfl
  rw [FX10_disk, Fdisk, DX10_disk, Ddisk, if_neg c1, if_neg c1, if_neg c2, if_neg c2, if_neg c3, if_neg c3, if_neg c4, if_pos c5, if_pos e0]
  obtain ⟨p, hp, rfl⟩ := range_of (by decide) c1 c2
  obtain ⟨q, hq, rfl⟩ := range_of (by decide) c3 c4
  have hc : (nI (8 * p + q)).toNatClampNeg = 8 * p + q := nI_clamp (by omega)
  have d6 : x.1 345 (8 * p + q) = m 20 (8 * p + q) := h.2.2.2.2.1.2.2.2.2.2 (8 * p + q) (by omega)
  rw [dk_x p hp q hq, dk_m p hp q hq, hc]
  have pp : ¬ nI (8 * p + q) < 0 := nI_pos (by omega)
  have pl : 8 * p + q < 192 := by omega
  refine ⟨⟨fun z => absurd z c1, fun _ => ⟨fun z => absurd z c2, fun _ => ⟨fun z => absurd z c3, fun _ => ⟨fun _ => ⟨pp, pl, trivial⟩, fun z => absurd c5 z⟩⟩⟩⟩, ⟨fun z => absurd z c1, fun _ => ⟨fun z => absurd z c2, fun _ => ⟨fun z => absurd z c3, fun _ => ⟨fun z => absurd z c4, fun _ => ⟨fun _ => ⟨pp, pl, trivial⟩, fun _ => trivial⟩⟩⟩⟩⟩, d6, ht, e00⟩
theorem disk_no {x : xD} {m : mD} {b k : Int32} (h : R3 x m) (hn : dThrow b k) : Ddisk b k m ∧ R3 x (Fdisk b k m).2 ∧ (Fdisk b k m).2 0 0 = 1 := by
  have ht : R3 x (ab_up m 0 0 (nI 1)) := h.thr
  have e0 : ¬ (ab_up m 0 0 (nI 1)) 0 0 ≤ 0 := by rw [ab_up_eq]; decide
  have e01 : (ab_up m 0 0 (nI 1)) 0 0 = 1 := by rw [ab_up_eq]; decide
  rw [Fdisk, Ddisk, if_neg e0]
  by_cases c1 : b < 0
  · rw [if_pos c1]
    exact ⟨⟨fun _ => ⟨fun z => absurd z e0, fun _ => trivial⟩, fun z => absurd c1 z⟩, ht, e01⟩
  · rw [if_neg c1]
    by_cases c2 : nI 24 ≤ b
    · rw [if_pos c2]
      exact ⟨⟨fun z => absurd z c1, fun _ => ⟨fun _ => ⟨fun z => absurd z e0, fun _ => trivial⟩, fun z => absurd c2 z⟩⟩, ht, e01⟩
    · rw [if_neg c2]
      by_cases c3 : k < 0
      · rw [if_pos c3]
        exact ⟨⟨fun z => absurd z c1, fun _ => ⟨fun z => absurd z c2, fun _ => ⟨fun _ => ⟨fun z => absurd z e0, fun _ => trivial⟩, fun z => absurd c3 z⟩⟩⟩, ht, e01⟩
      · have c4 : nI 8 ≤ k := by
          rcases hn with z | z | z | z
          · exact absurd z c1
          · exact absurd z c2
          · exact absurd z c3
          · exact z
        rw [if_neg c3, if_pos c4]
        exact ⟨⟨fun z => absurd z c1, fun _ => ⟨fun z => absurd z c2, fun _ => ⟨fun z => absurd z c3, fun _ => ⟨fun _ => ⟨fun z => absurd z e0, fun _ => trivial⟩, fun z => absurd c4 z⟩⟩⟩⟩, ht, e01⟩
