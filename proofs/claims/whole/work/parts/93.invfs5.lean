/-! THE INVARIANT, XIV: FILES' turn -/
theorem Inv.begins {S v : Nat} {m : mD} {k a b : Int32} (h : Inv S m) (h35 : m 0 35 = 0) (hv : v < 8) : Inv S (Fbegins (v + 4) k a b m) := by
  have T := fun (n : mD) (hn : Inv S n) (q : Int32) => hn.tells (f := 2) (u := v + 4) (v := q) (Or.inl rfl) (by omega) (by omega)
  rw [Fbegins]
  by_cases k1 : k = nI 1
  · rw [if_pos k1]; exact T _ (h.opens h35 hv) _
  · rw [if_neg k1]
    by_cases k6 : k = nI 6
    · rw [if_pos k6]; exact T _ (h.removes h35) _
    · rw [if_neg k6]
      by_cases c0 : a < 0
      · rw [if_pos c0]; exact T _ h _
      · rw [if_neg c0]
        by_cases c3 : nI 3 < a
        · rw [if_pos c3]; exact T _ h _
        · obtain ⟨d, hd, rfl⟩ := small4 c0 c3
          have ei : nI (4 * (v + 4)) + nI d = nI (4 * (v + 4) + d) := nI_add _ _
          have hc : (nI (4 * (v + 4) + d)).toNatClampNeg = 4 * (v + 4) + d := nI_clamp (by omega)
          rw [if_neg c3, ei, hc]
          rcases h.2.2.2.1 v d hv hd with z | ⟨g, hg, z⟩
          · rw [if_neg (by rw [z]; decide)]; exact T _ h _
          · have hcg : (nI g).toNatClampNeg = g := nI_clamp (by omega)
            obtain ⟨t1, P, S', hPS, hS, e15, e17⟩ := h.2.2.2.2.1 v d g hv hd hg z
            have es : ab_up m 15 (4 * (v + 4) + d) (m 15 (4 * (v + 4) + d)) = m := ab_up_self rfl
            rw [if_pos (by rw [z]; exact nI_pos' (by omega)), z, hcg, es]
            by_cases k2 : k = nI 2
            · rw [if_pos k2]
              exact T _ (h.p4 (fun q j hq => ab_up_ne (by omega)) (fun j _ => ab_up_ne (by decide)) (h.2.2.2.close h35 hv hd)) _
            · rw [if_neg k2]
              by_cases k3 : k = nI 3
              · rw [if_pos k3]; exact h.reads h35 hv hd hg z
              · rw [if_neg k3]
                by_cases k4 : k = nI 4
                · rw [if_pos k4]; exact h.writes h35 hv hd hg z
                · rw [if_neg k4]
                  by_cases k5 : k = nI 5
                  · rw [if_pos k5]
                    by_cases b0 : b < 0
                    · rw [if_pos b0]; exact T _ h _
                    · rw [if_neg b0]
                      by_cases b1 : m 17 g < b
                      · rw [if_pos b1]; exact T _ h _
                      · rw [if_neg b1]
                        obtain ⟨P2, hP2, rfl⟩ := nI_of b0
                        rw [e17] at b1
                        have hle : P2 ≤ S' := (nI_leI (by omega) (by omega)).mp (Int32.not_lt.mp b1)
                        exact T _ (h.p4 (fun q j hq => ab_up_ne (by omega)) (fun j _ => ab_up_ne (by decide)) (h.2.2.2.seek h35 hv hd hg z t1 e17 hS hle)) _
                  · rw [if_neg k5]; exact T _ h _
theorem mq_take_t {m : mD} {t M k j : Nat} (hm : m 2 t = nI M) (hM : M ≤ 12) (hk : k < M) (hj : j < M - 1) : mq (mTake t k m) t j = (if j < k then mq m t j else mq m t (j + 1)) := by
  have hm' : (fil m 6 0 13 (fun i => m 1 (13 * (12 * t + k) + i))) 2 t = nI M := by rw [fil_q (by decide)]; exact hm
  rw [mTake, mq_drop_t hm' hM hk hj, mq_fr (fun i => fil_q (by decide)), mq_fr (fun i => fil_q (by decide))]
theorem take_2 {m : mD} {t M k : Nat} (hm : m 2 t = nI M) (hM : M ≤ 12) : mTake t k m 2 t = nI (M - 1) := by
  have hm' : (fil m 6 0 13 (fun i => m 1 (13 * (12 * t + k) + i))) 2 t = nI M := by rw [fil_q (by decide)]; exact hm
  rw [mTake]; exact mDrop_2 hm' hM
theorem iTk.took22 {L k M : Nat} {m : mD} (h : iTk L m) (hm : m 2 2 = nI M) (hM : M ≤ 12) (hk : k < M) (h22 : (mq m 2 k).2.1 = nI 22) : iTk 0 (mTake 2 k m) ∧ L = 4 := by
  have eL := h.2.2.2.2.1 M k hM hm hk h22
  refine ⟨(h.take (by decide) hm hM hk).zero (fun z => by omega) (fun z => by omega) (fun z => by omega) (fun _ N j hN e hj z => ?_) (fun z => by omega), eL⟩
  have eN : N = M - 1 := (nI_eq (by omega) (by omega)).mp (e.symm.trans (take_2 hm hM))
  have P := h.2.2.2.2.2.2.2.2.1
  rw [mq_take_t hm hM hk (by omega)] at z
  by_cases c : j < k
  · rw [if_pos c] at z
    exact (P M j k hM hm c hk).1 ⟨z, h22⟩
  · rw [if_neg c] at z
    exact (P M k (j + 1) hM hm (by omega) (by omega)).1 ⟨h22, z⟩
theorem iTk.took42 {L k M : Nat} {m : mD} (h : iTk L m) (hm : m 2 2 = nI M) (hM : M ≤ 12) (hk : k < M) (h42 : (mq m 2 k).2.1 = nI 42) (hb : ∀ j, j < k → ¬ (mq m 2 j).2.1 = nI 22 ∧ ¬ (mq m 2 j).2.1 = nI 42) (h5 : m 5 2 = -1) : iTk 0 (mTake 2 k m) ∧ (m 0 34 < (mq m 2 k).2.2.1 ∧ (mq m 2 k).2.2.1 ≤ m 0 25) ∧ (∀ N j, N ≤ 12 → mTake 2 k m 2 2 = nI N → j < N → (mq (mTake 2 k m) 2 j).2.1 = nI 42 → (mq m 2 k).2.2.1 < (mq (mTake 2 k m) 2 j).2.2.1) ∧ (m 5 0 = nI 2 → (kq m 0).2.1 = nI 42 → (mq m 2 k).2.2.1 < (kq m 0).2.2.1) := by
  have B := h.2.2.2.2.2.2.2.2.2.1 M k hM hm hk h42
  have P := h.2.2.2.2.2.2.2.2.1
  have nL : ¬ (L = 1 ∨ L = 2 ∨ L = 5) := fun z => by
    have e := (h.2.2.2.2.2.2.2.1 z).2
    rw [e] at B
    exact lt_irr B.1 B.2
  have ix : ∀ N j, N ≤ 12 → mTake 2 k m 2 2 = nI N → j < N → N = M - 1 := fun N j hN e hj => (nI_eq (by omega) (by omega)).mp (e.symm.trans (take_2 hm hM))
  refine ⟨(h.take (by decide) hm hM hk).zero (fun z => absurd (Or.inl z) nL) (fun z => absurd (Or.inr (Or.inl z)) nL) (fun _ => ?_) (fun _ N j hN e hj z => ?_) (fun z => absurd (Or.inr (Or.inr z)) nL), B, fun N j hN e hj z => ?_, fun e ek => (h.2.2.2.2.2.2.2.2.2.2 e ek).2.2 M k hM hm hk h42⟩
  · rw [mTake_o (by decide) (by decide) (by decide), h5]
    exact fun z => nI_ne_m1 1 (by decide) z.symm
  · have eN := ix N j hN e hj
    rw [mq_take_t hm hM hk (by omega)] at z
    by_cases c : j < k
    · rw [if_pos c] at z; exact (hb j c).1 z
    · rw [if_neg c] at z
      exact (P M k (j + 1) hM hm (by omega) (by omega)).2.1 ⟨h42, z⟩
  · have eN := ix N j hN e hj
    rw [mq_take_t hm hM hk (by omega)] at z ⊢
    by_cases c : j < k
    · rw [if_pos c] at z; exact absurd z (hb j c).2
    · rw [if_neg c] at z ⊢
      exact (P M k (j + 1) hM hm (by omega) (by omega)).2.2 h42 z
theorem Inv.hear {S : Nat} {m : mD} {a : Int32} (h : Inv S m) (T : iTk 0 m) (hS : S < 1000000000) (ha : m 0 34 < a ∧ a ≤ m 0 25) (hr : ∀ N j, N ≤ 12 → m 2 2 = nI N → j < N → (mq m 2 j).2.1 = nI 42 → a < (mq m 2 j).2.2.1) (hk : m 5 0 = nI 2 → (kq m 0).2.1 = nI 42 → a < (kq m 0).2.2.1) : Inv S (if m 0 35 = 0 then ab_up m 0 34 a else FasksDriver (ab_up m 0 34 a)) := by
  obtain ⟨⟨a1, a2, -, a4⟩, ⟨p1, p2, p3, T0, F, b1, b2, b3, b4, b5⟩, h3, h4⟩ := h
  have q : ∀ x j, ¬ (x = 0 ∧ j = 34) → ab_up m 0 34 a x j = m x j := fun x j hx => ab_up_na hx
  have q34 : ab_up m 0 34 a 0 34 = a := ab_up_eq
  have n1 : iMan (ab_up m 0 34 a) := a1.fr (fun i _ => q 2 i (by omega)) (fun i _ => q 5 i (by omega))
  have s1 : iMs (ab_up m 0 34 a) := a2.fr (fun i => q 1 i (by omega)) (fun i _ => q 2 i (by omega)) (fun i => q 4 i (by omega)) (fun i _ => q 5 i (by omega))
  have hd1 : ab_up m 0 34 a 0 23 = 0 ∨ ab_up m 0 34 a 0 23 = 1 := by rw [q 0 23 (by omega)]; exact a4
  have L1 : iLf S (ab_up m 0 34 a) := by
    have pa : ¬ a < 0 := fun z => by
      have := Int32.lt_trans ha.1 z
      rw [b4] at this
      exact nI_pos (n := T0) (by omega) this
    obtain ⟨a', ha', rfl⟩ := nI_of pa
    rw [b4, b5] at ha
    have l1 := (nI_ltI (by omega) (by omega)).mp ha.1
    have l2 := (nI_leI (by omega) (by omega)).mp ha.2
    exact ⟨a', F, by omega, l2, b3, q34, by rw [q 0 25 (by omega)]; exact b5⟩
  have P1 : iP1 S (ab_up m 0 34 a) := ⟨p1, p2, p3, L1⟩
  have P3 : iP3 (ab_up m 0 34 a) := h3.fr (fun j => q 7 j (by omega)) (fun j => q 11 j (by omega)) (fun u _ => q 5 u (by omega)) (fun j _ _ => q 0 j (by omega))
  have P4 : iP4 (ab_up m 0 34 a) := h4.fr (fun x j _ _ => q x j (by omega)) (fun j _ _ => q 0 j (by omega))
  have T1 : iTk 0 (ab_up m 0 34 a) := by
    obtain ⟨L, hL, T'⟩ : ∃ L, L = 0 ∧ iTk L m := ⟨0, rfl, T⟩
    suffices K : iTk L (ab_up m 0 34 a) by rw [hL] at K; exact K
    obtain ⟨c1, c2, c3, c4, c5, c6, c7, c8, c9, c10, c11⟩ := T'
    rw [iTk, q34, q 0 40 (by omega), q 0 27 (by omega), q 0 23 (by omega), q 0 35 (by omega), q 0 25 (by omega), q 2 1 (by omega), q 2 2 (by omega), q 5 0 (by omega), q 5 1 (by omega), q 5 2 (by omega), kq_fr (fun i => q 4 i (by omega)), kq_fr (fun i => q 4 i (by omega))]
    simp only [mq_fr (fun i => q 1 i (by omega))]
    exact ⟨c1, c2, c3, c4, c5, c6, fun z => absurd hL z, fun z => by omega, c9, fun N j hN e hj z => ⟨hr N j hN e hj z, (c10 N j hN e hj z).2⟩, fun e ek => ⟨hk e ek, (c11 e ek).2⟩⟩
  by_cases z : m 0 35 = 0
  · rw [if_pos z]
    exact ⟨⟨n1, s1, ⟨0, T1⟩, hd1⟩, P1, P3, P4⟩
  · rw [if_neg z]
    have h35 := h4.2.2.2.2.2.2.2.2.1.resolve_left z
    have es : ab_up (ab_up m 0 34 a) 0 35 (nI 1) = ab_up m 0 34 a := ab_up_self (by rw [ab_up_nj (by decide)]; exact h35)
    obtain ⟨v, d, g, P, S', B, -, -, -, -, -, -, hB, -, -, -, -, -, -, e41, -, st⟩ := h4.2.2.2.2.2.2.2.1 h35
    refine Inv.ask (B := B) n1 s1 T1 hd1 P1 P3 (by rw [es]; exact P4) ?_ hB (by rw [q 0 41 (by omega)]; exact e41)
    rw [q 0 40 (by omega)]
    rcases st with y | y | y
    · exact Or.inl y.2.1
    · exact Or.inl y.2
    · exact Or.inr y.2
theorem okB_2 {q : mQ} (h : okB 2 q) : (∃ s, s < 12 ∧ q.1 = nI s ∧ (q.2.1 = 0 ∨ (4 ≤ s ∧ (q.2.1 = nI 1 ∨ q.2.1 = nI 2 ∨ q.2.1 = nI 3 ∨ q.2.1 = nI 4 ∨ q.2.1 = nI 5 ∨ q.2.1 = nI 6 ∨ q.2.1 = nI 7)) ∨ q.2.1 = nI 22 ∨ (q.2.1 = nI 30 ∧ ∃ a b, a < 8 ∧ b < 8 ∧ q.2.2.1 = nI (a + 4) ∧ q.2.2.2 = nI (b + 4)) ∨ (q.2.1 = nI 31 ∧ ∃ a, a < 8 ∧ q.2.2.1 = nI (a + 4)) ∨ (q.2.1 = nI 42 ∧ ¬ q.2.2.1 = 0))) ∧ (q.2.1 = nI 22 ∨ q.2.1 = nI 42 → q.1 ≤ nI 1) := by
  obtain ⟨f, hf, e, hs⟩ := h
  obtain ⟨k22, -, k42⟩ := kind_of hs
  refine ⟨⟨f, hf, e, ?_⟩, fun z => ?_⟩
  · rcases hs with h | ⟨rfl, h⟩ | ⟨rfl, h⟩ | ⟨rfl, h⟩ | ⟨rfl, h⟩ | ⟨h4, h⟩
    · exact Or.inl h
    · rcases h with h | h
      · omega
      · exact Or.inr (Or.inr (Or.inr (Or.inr (Or.inr h.2))))
    · rcases h with h | h
      · omega
      · exact Or.inr (Or.inr (Or.inl h.2))
    · rcases h with h | h | h <;> omega
    · rcases h with h | h
      · rcases h.2 with h | h
        · exact Or.inr (Or.inr (Or.inr (Or.inl h)))
        · exact Or.inr (Or.inr (Or.inr (Or.inr (Or.inl h))))
      · omega
    · rcases h with h | h
      · exact Or.inr (Or.inl ⟨h4, h.2⟩)
      · omega
  · rw [e]
    rcases z with z | z
    · rw [(k22 z).1]; exact Int32.le_refl _
    · rw [(k42 z).1]; decide
theorem Inv.fim {S : Nat} {m : mD} (h : Inv S m) : iFiM m := fun k M hM hm hk => (okB_2 (h.1.2.1.1 2 M k (by decide) hM hm hk)).1
