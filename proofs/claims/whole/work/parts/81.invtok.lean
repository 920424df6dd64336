/-! THE INVARIANT, II: what FILES asks of the driver is one thing; L says where it is -/
def tokQ (q : mQ) : Prop := q.2.1 = nI 20 ∨ q.2.1 = nI 21
def pwF (q r : mQ) : Prop := ¬ (q.2.1 = nI 22 ∧ r.2.1 = nI 22) ∧ ¬ (q.2.1 = nI 42 ∧ r.2.1 = nI 22) ∧ (q.2.1 = nI 42 → r.2.1 = nI 42 → q.2.2.1 < r.2.2.1)
def iTk (L : Nat) (m : mD) : Prop :=
  (∀ M k, M ≤ 12 → m 2 1 = nI M → k < M → tokQ (mq m 1 k) → L = 1 ∧ (mq m 1 k).2.1 = m 0 40) ∧
  (∀ M i j, M ≤ 12 → m 2 1 = nI M → i < j → j < M → ¬ (tokQ (mq m 1 i) ∧ tokQ (mq m 1 j))) ∧
  (¬ m 0 27 = 0 → L = 2 ∧ m 0 27 = m 0 40) ∧
  (m 5 2 = nI 1 → L = 3 ∧ (kq m 2).2.1 = m 0 40) ∧
  (∀ M k, M ≤ 12 → m 2 2 = nI M → k < M → (mq m 2 k).2.1 = nI 22 → L = 4) ∧
  (m 5 1 = nI 2 → L = 5) ∧
  (¬ L = 0 → m 0 35 = 1) ∧
  ((L = 1 ∨ L = 2 ∨ L = 5) → m 0 23 = 1 ∧ m 0 34 = m 0 25) ∧
  (∀ M i j, M ≤ 12 → m 2 2 = nI M → i < j → j < M → pwF (mq m 2 i) (mq m 2 j)) ∧
  (∀ M k, M ≤ 12 → m 2 2 = nI M → k < M → (mq m 2 k).2.1 = nI 42 → m 0 34 < (mq m 2 k).2.2.1 ∧ (mq m 2 k).2.2.1 ≤ m 0 25) ∧
  (m 5 0 = nI 2 → (kq m 0).2.1 = nI 42 → m 0 34 < (kq m 0).2.2.1 ∧ (kq m 0).2.2.1 ≤ m 0 25 ∧ ∀ M k, M ≤ 12 → m 2 2 = nI M → k < M → (mq m 2 k).2.1 = nI 42 → (mq m 2 k).2.2.1 < (kq m 0).2.2.1)
theorem kq_fr {m m' : mD} {p : Nat} (h : ∀ i, m' 4 i = m 4 i) : kq m' p = kq m p := by rw [kq, kq, h, h, h]
theorem iTk.fr {L : Nat} {m m' : mD} (h : iTk L m) (h1 : ∀ i, m' 1 i = m 1 i) (h2 : ∀ i, i = 1 ∨ i = 2 → m' 2 i = m 2 i) (h4 : ∀ i, m' 4 i = m 4 i) (h5 : ∀ i, i = 0 ∨ i = 1 ∨ i = 2 → m' 5 i = m 5 i) (h0 : ∀ j, j = 23 ∨ j = 25 ∨ j = 27 ∨ j = 34 ∨ j = 35 ∨ j = 40 → m' 0 j = m 0 j) : iTk L m' := by
  rw [iTk, h2 1 (by omega), h2 2 (by omega), h5 0 (by omega), h5 1 (by omega), h5 2 (by omega), h0 23 (by omega), h0 25 (by omega), h0 27 (by omega), h0 34 (by omega), h0 35 (by omega), h0 40 (by omega), kq_fr h4, kq_fr h4]
  simp only [mq_fr h1]
  exact h
/-- inboxes emptied, what was kept let go, no job -/
theorem iTk.clr {L : Nat} {m m' : mD} (h : iTk L m) (h1 : ∀ i, m' 1 i = m 1 i) (h2 : ∀ i, i = 1 ∨ i = 2 → m' 2 i = m 2 i ∨ m' 2 i = nI 0) (h4 : ∀ i, m' 4 i = m 4 i) (h5 : ∀ i, i = 0 ∨ i = 1 ∨ i = 2 → m' 5 i = m 5 i ∨ m' 5 i = -1) (h27 : m' 0 27 = m 0 27 ∨ m' 0 27 = 0) (h0 : ∀ j, j = 23 ∨ j = 25 ∨ j = 34 ∨ j = 35 ∨ j = 40 → m' 0 j = m 0 j) : iTk L m' := by
  obtain ⟨a1, a2, a3, a4, a5, a6, a7, a8, a9, a10, a11⟩ := h
  have n : ∀ t, t < 12 → (-1 : Int32) = nI t → False := fun t ht e => nI_ne_m1 t (by omega) e.symm
  have z2 : ∀ t M, t = 1 ∨ t = 2 → M ≤ 12 → m' 2 t = nI M → 0 < M → m 2 t = nI M := fun t M ht hM e hp => by
    rcases h2 t ht with z | z
    · exact z.symm.trans e
    · have : M = 0 := (nI_eq (by omega) (by omega)).mp (e.symm.trans z)
      omega
  rw [iTk, h0 23 (by omega), h0 25 (by omega), h0 34 (by omega), h0 35 (by omega), h0 40 (by omega), kq_fr h4, kq_fr h4]
  simp only [mq_fr h1]
  refine ⟨fun M k hM e hk => a1 M k hM (z2 1 M (by omega) hM e (by omega)) hk, fun M i j hM e hi hj => a2 M i j hM (z2 1 M (by omega) hM e (by omega)) hi hj, fun e => ?_, fun e => ?_, fun M k hM e hk => a5 M k hM (z2 2 M (by omega) hM e (by omega)) hk, fun e => ?_, a7, a8, fun M i j hM e hi hj => a9 M i j hM (z2 2 M (by omega) hM e (by omega)) hi hj, fun M k hM e hk => a10 M k hM (z2 2 M (by omega) hM e (by omega)) hk, fun e ek => ?_⟩
  · rcases h27 with z | z
    · rw [z] at e ⊢; exact a3 e
    · exact absurd z e
  · rcases h5 2 (by omega) with z | z
    · exact a4 (z.symm.trans e)
    · exact (n 1 (by decide) (z.symm.trans e)).elim
  · rcases h5 1 (by omega) with z | z
    · exact a6 (z.symm.trans e)
    · exact (n 2 (by decide) (z.symm.trans e)).elim
  · rcases h5 0 (by omega) with z | z
    · obtain ⟨b1, b2, b3⟩ := a11 (z.symm.trans e) ek
      exact ⟨b1, b2, fun M k hM e2 hk => b3 M k hM (z2 2 M (by omega) hM e2 (by omega)) hk⟩
    · exact (n 2 (by decide) (z.symm.trans e)).elim
/-- where it can't be: nowhere -/
theorem iTk.zero {L : Nat} {m : mD} (h : iTk L m) (h1 : L = 1 → ∀ M k, M ≤ 12 → m 2 1 = nI M → k < M → ¬ tokQ (mq m 1 k)) (h2 : L = 2 → m 0 27 = 0) (h3 : L = 3 → ¬ m 5 2 = nI 1) (h4 : L = 4 → ∀ M k, M ≤ 12 → m 2 2 = nI M → k < M → ¬ (mq m 2 k).2.1 = nI 22) (h5 : L = 5 → ¬ m 5 1 = nI 2) : iTk 0 m := by
  obtain ⟨a1, a2, a3, a4, a5, a6, a7, a8, a9, a10, a11⟩ := h
  refine ⟨fun M k hM e hk z => absurd z (h1 (a1 M k hM e hk z).1 M k hM e hk), a2, fun z => absurd (h2 (a3 z).1) z, fun z => absurd z (h3 (a4 z).1), fun M k hM e hk z => absurd z (h4 (a5 M k hM e hk z) M k hM e hk), fun z => absurd z (h5 (a6 z)), fun z => absurd rfl z, fun z => ?_, a9, a10, a11⟩
  rcases z with z | z | z <;> exact absurd z (by decide)
theorem iTk.drop {L : Nat} {m : mD} {t k M : Nat} (h : iTk L m) (ht : t < 12) (hm : m 2 t = nI M) (hM : M ≤ 12) (hk : k < M) : iTk L (mDrop t k m) := by
  obtain ⟨a1, a2, a3, a4, a5, a6, a7, a8, a9, a10, a11⟩ := h
  have o0 : ∀ j, mDrop t k m 0 j = m 0 j := fun j => mDrop_o (by decide) (by omega)
  have o5 : ∀ j, mDrop t k m 5 j = m 5 j := fun j => mDrop_o (by decide) (by omega)
  have o4 : ∀ j, mDrop t k m 4 j = m 4 j := fun j => mDrop_o (by decide) (by omega)
  -- an index of the new inbox is one of the old
  have ix : ∀ p N j, p < 12 → N ≤ 12 → mDrop t k m 2 p = nI N → j < N → ∃ N' j', N' ≤ 12 ∧ m 2 p = nI N' ∧ j' < N' ∧ mq (mDrop t k m) p j = mq m p j' ∧ (p = t → N' = N + 1 ∧ j' = (if j < k then j else j + 1)) ∧ (¬ p = t → N' = N ∧ j' = j) := fun p N j hp hN e hj => by
    by_cases c : p = t
    · subst c
      have eN : N = M - 1 := (nI_eq (by omega) (by omega)).mp (e.symm.trans (mDrop_2 hm hM))
      refine ⟨M, (if j < k then j else j + 1), hM, hm, ?_, ?_, fun _ => ⟨by omega, rfl⟩, fun z => absurd rfl z⟩
      · by_cases c2 : j < k
        · rw [if_pos c2]; omega
        · rw [if_neg c2]; omega
      · rw [mq_drop_t hm hM hk (by omega)]
        by_cases c2 : j < k
        · rw [if_pos c2, if_pos c2]
        · rw [if_neg c2, if_neg c2]
    · exact ⟨N, j, hN, (mDrop_o (by decide) (by omega)).symm.trans e, hj, mq_drop_o hm hM hk c (by omega), fun z => absurd z c, fun _ => ⟨rfl, rfl⟩⟩
  have ix2 : ∀ p N i j, p < 12 → N ≤ 12 → mDrop t k m 2 p = nI N → i < j → j < N → ∃ N' i' j', N' ≤ 12 ∧ m 2 p = nI N' ∧ i' < j' ∧ j' < N' ∧ mq (mDrop t k m) p i = mq m p i' ∧ mq (mDrop t k m) p j = mq m p j' := fun p N i j hp hN e hi hj => by
    obtain ⟨N1, j1, b1, b2, b3, b4, b5, b6⟩ := ix p N j hp hN e hj
    obtain ⟨N2, i1, c1, c2, c3, c4, c5, c6⟩ := ix p N i hp hN e (by omega)
    refine ⟨N1, i1, j1, b1, b2, ?_, b3, c4, b4⟩
    by_cases c : p = t
    · rw [(b5 c).2, (c5 c).2]
      by_cases x1 : j < k
      · rw [if_pos x1, if_pos (by omega)]; exact hi
      · rw [if_neg x1]
        by_cases x2 : i < k
        · rw [if_pos x2]; omega
        · rw [if_neg x2]; omega
    · rw [(b6 c).2, (c6 c).2]; exact hi
  rw [iTk, o0, o0, o0, o0, o0, o0, o5, o5, o5, kq_fr o4, kq_fr o4]
  refine ⟨fun N j hN e hj z => ?_, fun N i j hN e hi hj => ?_, a3, a4, fun N j hN e hj z => ?_, a6, a7, a8, fun N i j hN e hi hj => ?_, fun N j hN e hj => ?_, fun e ek => ?_⟩
  · obtain ⟨N1, j1, b1, b2, b3, b4, -⟩ := ix 1 N j (by decide) hN e hj
    rw [b4] at z ⊢
    exact a1 N1 j1 b1 b2 b3 z
  · obtain ⟨N1, i1, j1, b1, b2, b3, b4, b5, b6⟩ := ix2 1 N i j (by decide) hN e hi hj
    rw [b5, b6]; exact a2 N1 i1 j1 b1 b2 b3 b4
  · obtain ⟨N1, j1, b1, b2, b3, b4, -⟩ := ix 2 N j (by decide) hN e hj
    rw [b4] at z
    exact a5 N1 j1 b1 b2 b3 z
  · obtain ⟨N1, i1, j1, b1, b2, b3, b4, b5, b6⟩ := ix2 2 N i j (by decide) hN e hi hj
    rw [b5, b6]; exact a9 N1 i1 j1 b1 b2 b3 b4
  · obtain ⟨N1, j1, b1, b2, b3, b4, -⟩ := ix 2 N j (by decide) hN e hj
    rw [b4]; exact a10 N1 j1 b1 b2 b3
  · obtain ⟨d1, d2, d3⟩ := a11 e ek
    refine ⟨d1, d2, fun N j hN e2 hj => ?_⟩
    obtain ⟨N1, j1, b1, b2, b3, b4, -⟩ := ix 2 N j (by decide) hN e2 hj
    rw [b4]; exact d3 N1 j1 b1 b2 b3
theorem iTk.take {L : Nat} {m : mD} {t k M : Nat} (h : iTk L m) (ht : t < 12) (hm : m 2 t = nI M) (hM : M ≤ 12) (hk : k < M) : iTk L (mTake t k m) := by
  rw [mTake]
  exact (h.fr (m' := fil m 6 0 13 (fun i => m 1 (13 * (12 * t + k) + i))) (fun i => fil_q (by decide)) (fun i _ => fil_q (by decide)) (fun i => fil_q (by decide)) (fun i _ => fil_q (by decide)) (fun j _ => fil_q (by decide))).drop ht (by rw [fil_q (by decide)]; exact hm) hM hk
