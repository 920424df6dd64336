/-! THE INVARIANT, XV: FILES' turn; what a turn wants -/
theorem Inv.ftake {S k M : Nat} {m : mD} (h : Inv S m) (hS : S < 1000000000) (h5 : m 5 2 = -1) (hm : m 2 2 = nI M) (hM : M ≤ 12) (hk : k < M) (hsel : ¬ m 0 35 = 0 → (m 1 (13 * (12 * 2 + k) + 1) = 0 ∨ m 1 (13 * (12 * 2 + k) + 0) ≤ nI 1) ∧ ∀ j, j < k → ¬ (m 1 (13 * (12 * 2 + j) + 1) = 0 ∨ m 1 (13 * (12 * 2 + j) + 0) ≤ nI 1)) (h0 : m 0 35 = 0 → k = 0) : Inv S (Ffgo (FtakeOut 2 k m)) := by
  rw [(FtakeOut_eq (p := 2) (k := k) (by decide) hm hk hM).1]
  have T := h.take (k := k) (by decide) hm hM hk
  have e6 : ∀ i, i < 13 → mTake 2 k m 6 i = m 1 (13 * (12 * 2 + k) + i) := fun i hi => mTake_6 hi
  have g0 : ∀ j, mTake 2 k m 0 j = m 0 j := fun j => mTake_o (by decide) (by omega) (by decide)
  obtain ⟨⟨s, hs, es, hk2⟩, -⟩ := okB_2 (h.1.2.1.1 2 M k (by decide) hM hm hk)
  have es : mTake 2 k m 6 0 = nI s := (e6 0 (by decide)).trans es
  have k1 : (mq m 2 k).2.1 = mTake 2 k m 6 1 := (e6 1 (by decide)).symm
  have k2 : (mq m 2 k).2.2.1 = mTake 2 k m 6 2 := (e6 2 (by decide)).symm
  have k3 : (mq m 2 k).2.2.2 = mTake 2 k m 6 3 := (e6 3 (by decide)).symm
  obtain ⟨L, hT⟩ := h.1.2.2.1
  have hb : ∀ j, j < k → ¬ (mq m 2 j).2.1 = nI 22 ∧ ¬ (mq m 2 j).2.1 = nI 42 := fun j hj => by
    have n35 : ¬ m 0 35 = 0 := fun z => by have := h0 z; omega
    have ns := (hsel n35).2 j hj
    have ob := (okB_2 (h.1.2.1.1 2 M j (by decide) hM hm (by omega))).2
    exact ⟨fun z => ns (Or.inr (ob (Or.inl z))), fun z => ns (Or.inr (ob (Or.inr z)))⟩
  -- what is no kind of 22 or 42 comes from behind the senders that it still hears while it waits
  have w0 : ∀ c : Int32, ¬ c = 0 → ¬ s ≤ 1 → mTake 2 k m 6 1 = c → m 0 35 = 0 := fun c c0 s1 z => by
    apply Classical.byContradiction
    intro y
    rcases (hsel y).1 with q | q
    · rw [← e6 1 (by decide), z] at q; exact c0 q
    · rw [← e6 0 (by decide), es] at q
      exact s1 ((nI_leI (by omega) (by decide)).mp q)
  have hcs : (nI s).toNatClampNeg = s := nI_clamp (by omega)
  rw [k1, k2, k3] at hk2
  rw [Ffgo, es, hcs]
  rcases hk2 with kd | ⟨s4, kd⟩ | kd | ⟨kd, va, vb, hva, hvb, ea, eb⟩ | ⟨kd, va, hva, ea⟩ | ⟨kd, ea⟩
  · rw [if_pos kd]; exact T
  · obtain ⟨v, hv, rfl⟩ : ∃ v, v < 8 ∧ s = v + 4 := ⟨s - 4, by omega, by omega⟩
    have q0 : ¬ mTake 2 k m 6 1 = 0 := by rcases kd with z | z | z | z | z | z | z <;> rw [z] <;> decide
    have q22 : ¬ mTake 2 k m 6 1 = 22 := by rcases kd with z | z | z | z | z | z | z <;> rw [z] <;> decide
    have q30 : ¬ mTake 2 k m 6 1 = 30 := by rcases kd with z | z | z | z | z | z | z <;> rw [z] <;> decide
    have q31 : ¬ mTake 2 k m 6 1 = 31 := by rcases kd with z | z | z | z | z | z | z <;> rw [z] <;> decide
    have q42 : ¬ mTake 2 k m 6 1 = 42 := by rcases kd with z | z | z | z | z | z | z <;> rw [z] <;> decide
    have h35 := w0 _ q0 (by omega) rfl
    rw [if_neg q0, if_neg q22, if_neg q30, if_neg q31, if_neg q42]
    exact T.begins ((g0 35).trans h35) hv
  · have q0 : ¬ mTake 2 k m 6 1 = 0 := by rw [kd]; decide
    rw [if_neg q0, if_pos (show mTake 2 k m 6 1 = 22 from kd)]
    obtain ⟨T0, eL⟩ := hT.took22 hm hM hk (k1.trans kd)
    have h35 : m 0 35 = 1 := hT.2.2.2.2.2.2.1 (by omega)
    rw [g0, if_neg (by rw [h35]; decide)]
    exact T.goesOn T0 ((g0 35).trans h35)
  · have q0 : ¬ mTake 2 k m 6 1 = 0 := by rw [kd]; decide
    have q22 : ¬ mTake 2 k m 6 1 = 22 := by rw [kd]; decide
    have h35 : m 0 35 = 0 := by
      apply Classical.byContradiction
      intro y
      have hq := (hsel y).1.resolve_left (by rw [← e6 1 (by decide)]; exact q0)
      obtain ⟨f, hf, ef, hfs⟩ := h.1.2.1.1 2 M k (by decide) hM hm hk
      have f3 : f = 3 := by
        have kk : (mq m 2 k).2.1 = nI 30 := k1.trans kd
        rcases hfs with z | ⟨-, z⟩ | ⟨-, z⟩ | ⟨-, z⟩ | ⟨z, -⟩ | ⟨-, z⟩
        · rw [kk] at z; exact absurd z (by decide)
        · rcases z with z | z
          · rw [kk] at z; exact absurd z.2 (by decide)
          · rw [kk] at z; exact absurd z.2.1 (by decide)
        · rcases z with z | z
          · rw [kk] at z; exact absurd z.2 (by decide)
          · rw [kk] at z; exact absurd z.2 (by decide)
        · rcases z with z | z | z
          · omega
          · omega
          · omega
        · exact z
        · rcases z with z | z
          · rw [kk] at z
            rcases z.2 with z | z | z | z | z | z | z <;> exact absurd z (by decide)
          · omega
      subst f3
      have e0 : m 1 (13 * (12 * 2 + k) + 0) = nI 3 := ef
      rw [e0] at hq
      exact absurd hq (by decide)
    have ca : (nI (va + 4)).toNatClampNeg = va + 4 := nI_clamp (by omega)
    have cb : (nI (vb + 4)).toNatClampNeg = vb + 4 := nI_clamp (by omega)
    rw [if_neg q0, if_neg q22, if_pos (show mTake 2 k m 6 1 = 30 from kd), ea, eb, ca, cb]
    obtain ⟨i1, i2⟩ := iP4.copies hva hvb 5 0 _ T.2.2.2 ((g0 35).trans h35)
    have C := T.p4 (m' := Fcopies (va + 4) (vb + 4) _) (fun q j hq => i2 q j (by omega) (by omega)) (fun j _ => i2 0 j (by decide) (by decide)) i1
    exact C.snd (f := 2) (t := 3) (by decide) (by decide) (by decide) (Or.inr (Or.inr (Or.inr (Or.inl ⟨rfl, Or.inr (Or.inl ⟨rfl, rfl⟩)⟩)))) (by decide) (by decide)
  · have q0 : ¬ mTake 2 k m 6 1 = 0 := by rw [kd]; decide
    have q22 : ¬ mTake 2 k m 6 1 = 22 := by rw [kd]; decide
    have q30 : ¬ mTake 2 k m 6 1 = 30 := by rw [kd]; decide
    have h35 : m 0 35 = 0 := by
      apply Classical.byContradiction
      intro y
      have hq := (hsel y).1.resolve_left (by rw [← e6 1 (by decide)]; exact q0)
      obtain ⟨f, hf, ef, hfs⟩ := h.1.2.1.1 2 M k (by decide) hM hm hk
      have f3 : f = 3 := by
        have kk : (mq m 2 k).2.1 = nI 31 := k1.trans kd
        rcases hfs with z | ⟨-, z⟩ | ⟨-, z⟩ | ⟨-, z⟩ | ⟨z, -⟩ | ⟨-, z⟩
        · rw [kk] at z; exact absurd z (by decide)
        · rcases z with z | z
          · rw [kk] at z; exact absurd z.2 (by decide)
          · rw [kk] at z; exact absurd z.2.1 (by decide)
        · rcases z with z | z
          · rw [kk] at z; exact absurd z.2 (by decide)
          · rw [kk] at z; exact absurd z.2 (by decide)
        · rcases z with z | z | z
          · omega
          · omega
          · omega
        · exact z
        · rcases z with z | z
          · rw [kk] at z
            rcases z.2 with z | z | z | z | z | z | z <;> exact absurd z (by decide)
          · omega
      subst f3
      have e0 : m 1 (13 * (12 * 2 + k) + 0) = nI 3 := ef
      rw [e0] at hq
      exact absurd hq (by decide)
    have ca : (nI (va + 4)).toNatClampNeg = va + 4 := nI_clamp (by omega)
    rw [if_neg q0, if_neg q22, if_neg q30, if_pos (show mTake 2 k m 6 1 = 31 from kd), ea, ca]
    obtain ⟨i1, i2⟩ := iP4.closes hva 5 0 _ T.2.2.2 ((g0 35).trans h35)
    have C := T.p4 (m' := FclosesAll (va + 4) _) (fun q j hq => i2 q j (by omega)) (fun j _ => i2 0 j (by decide)) i1
    exact C.snd (f := 2) (t := 3) (by decide) (by decide) (by decide) (Or.inr (Or.inr (Or.inr (Or.inl ⟨rfl, Or.inr (Or.inl ⟨rfl, rfl⟩)⟩)))) (by decide) (by decide)
  · have q0 : ¬ mTake 2 k m 6 1 = 0 := by rw [kd]; decide
    have q22 : ¬ mTake 2 k m 6 1 = 22 := by rw [kd]; decide
    have q30 : ¬ mTake 2 k m 6 1 = 30 := by rw [kd]; decide
    have q31 : ¬ mTake 2 k m 6 1 = 31 := by rw [kd]; decide
    obtain ⟨T0, B, R, K⟩ := hT.took42 hm hM hk (k1.trans kd) hb h5
    rw [k2] at B R K
    rw [if_neg q0, if_neg q22, if_neg q30, if_neg q31, if_pos (show mTake 2 k m 6 1 = 42 from kd)]
    have H := T.hear (a := mTake 2 k m 6 2) T0 hS (by rw [g0, g0]; exact B) R (fun e ek => by
      have o4 : ∀ i, mTake 2 k m 4 i = m 4 i := fun i => mTake_o (by decide) (by omega) (by decide)
      rw [kq_fr o4] at ek ⊢
      exact K ((mTake_o (by decide) (by decide) (by decide)).symm.trans e) ek)
    exact H
