/-! THE INVARIANT, VII: the DRIVER's turn -/
theorem blk_of {q : mQ} (h : okB 1 q) (hk : tokQ q) : ∃ B, B < 24 ∧ q.2.2.1 = nI B := by
  obtain ⟨f, hf, e, hs⟩ := h
  obtain ⟨k22, k20, k42⟩ := kind_of hs
  obtain ⟨rfl, -⟩ := k20 hk
  rcases hs with h | ⟨z, h⟩ | ⟨z, h⟩ | ⟨z, h⟩ | ⟨z, h⟩ | ⟨z, h⟩
  · rcases hk with y | y
    · rw [y] at h; exact absurd h (by decide)
    · rw [y] at h; exact absurd h (by decide)
  · omega
  · omega
  · rcases h with h | h | h
    · exact h.2.2
    · omega
    · omega
  · omega
  · omega
/-- the driver's inbox gives its request: nothing of it is left there -/
theorem iTk.got {L M : Nat} {m : mD} (h : iTk L m) (hm : m 2 1 = nI M) (hM : M ≤ 12) (h0 : 0 < M) (hk : tokQ (mq m 1 0)) : iTk 0 (mTake 1 0 m) ∧ L = 1 := by
  have eL := (h.1 M 0 hM hm h0 hk).1
  refine ⟨(h.take (k := 0) (by decide) hm hM h0).zero (fun _ N j hN e hj => ?_) (fun z => by omega) (fun z => by omega) (fun z => by omega) (fun z => by omega), eL⟩
  have em : mTake 1 0 m = mDrop 1 0 (fil m 6 0 13 (fun i => m 1 (13 * (12 * 1 + 0) + i))) := rfl
  have hm' : (fil m 6 0 13 (fun i => m 1 (13 * (12 * 1 + 0) + i))) 2 1 = nI M := by rw [fil_q (by decide)]; exact hm
  rw [em] at e ⊢
  have eN : N = M - 1 := (nI_eq (by omega) (by omega)).mp (e.symm.trans (mDrop_2 hm' hM))
  rw [mq_drop_t hm' hM h0 (by omega), if_neg (by omega), mq_fr (fun i => fil_q (by decide))]
  intro z
  exact h.2.1 M 0 (j + 1) hM hm (by omega) (by omega) ⟨hk, z⟩
theorem Inv.beg {S M : Nat} {m : mD} (h : Inv S m) (hal : m 0 23 = 1) (h27 : m 0 27 = 0) (hm : m 2 1 = nI M) (hM : M ≤ 12) (h0 : 0 < M) : Inv S (Fbeg (mTake 1 0 m)) := by
  have T := h.take (k := 0) (by decide) hm hM h0
  have e6 : ∀ i, i < 13 → mTake 1 0 m 6 i = m 1 (13 * (12 * 1 + 0) + i) := fun i hi => mTake_6 hi
  have k1 : mTake 1 0 m 6 1 = (mq m 1 0).2.1 := e6 1 (by decide)
  by_cases c : mTake 1 0 m 6 1 = nI 20 ∨ mTake 1 0 m 6 1 = nI 21
  · rw [Fbeg_yes c]
    have hk : tokQ (mq m 1 0) := by rw [k1] at c; exact c
    obtain ⟨⟨a1, a2, ⟨L, a3⟩, a4⟩, ⟨p1, p2, p3, p4⟩, h3, h4⟩ := h
    obtain ⟨T0, eL⟩ := a3.got hm hM h0 hk
    subst eL
    obtain ⟨-, ek⟩ := a3.1 M 0 hM hm h0 hk
    have e35 := a3.2.2.2.2.2.2.1 (by decide)
    obtain ⟨e23, e34⟩ := a3.2.2.2.2.2.2.2.1 (by omega)
    obtain ⟨B, hB, eB⟩ := blk_of (a2.1 1 M 0 (by decide) hM hm h0) hk
    have t0 : ∀ j, mTake 1 0 m 0 j = m 0 j := fun j => mTake_o (by decide) (by omega) (by decide)
    have o : ∀ q j, ¬ (q = 0 ∧ (j = 27 ∨ j = 28)) → ¬ q = 21 → fil (ab_up (ab_up (mTake 1 0 m) 0 27 (mTake 1 0 m 6 1)) 0 28 (mTake 1 0 m 6 2)) 21 0 8 (fun i => mTake 1 0 m 6 (5 + i)) q j = mTake 1 0 m q j := fun q j h1 h2 => by rw [fil_q h2, ab_up_na (by omega), ab_up_na (by omega)]
    have e27 : fil (ab_up (ab_up (mTake 1 0 m) 0 27 (mTake 1 0 m 6 1)) 0 28 (mTake 1 0 m 6 2)) 21 0 8 (fun i => mTake 1 0 m 6 (5 + i)) 0 27 = mTake 1 0 m 6 1 := by rw [fil_q (by decide), ab_up_nj (by decide), ab_up_eq]
    have e28 : fil (ab_up (ab_up (mTake 1 0 m) 0 27 (mTake 1 0 m 6 1)) 0 28 (mTake 1 0 m 6 2)) 21 0 8 (fun i => mTake 1 0 m 6 (5 + i)) 0 28 = mTake 1 0 m 6 2 := by rw [fil_q (by decide), ab_up_eq]
    generalize fil (ab_up (ab_up (mTake 1 0 m) 0 27 (mTake 1 0 m 6 1)) 0 28 (mTake 1 0 m 6 2)) 21 0 8 (fun i => mTake 1 0 m 6 (5 + i)) = n at *
    obtain ⟨L2, hL2, T2⟩ : ∃ L2, L2 = 2 ∧ iTk L2 (mTake 1 0 m) := ⟨2, rfl, T0.any (fun _ => by rw [t0]; exact e35) (fun _ => ⟨by rw [t0]; exact e23, by rw [t0, t0]; exact e34⟩)⟩
    have T3 : iTk L2 n := by
      obtain ⟨b1, b2, b3, b4, b5, b6, b7, b8, b9, b10, b11⟩ := T2
      rw [iTk, o 0 40 (by omega) (by omega), o 0 35 (by omega) (by omega), o 0 23 (by omega) (by omega), o 0 34 (by omega) (by omega), o 0 25 (by omega) (by omega), o 2 1 (by omega) (by omega), o 2 2 (by omega) (by omega), o 5 0 (by omega) (by omega), o 5 1 (by omega) (by omega), o 5 2 (by omega) (by omega), kq_fr (fun i => o 4 i (by omega) (by omega)), kq_fr (fun i => o 4 i (by omega) (by omega)), e27]
      simp only [mq_fr (fun i => o 1 i (by omega) (by omega))]
      exact ⟨b1, b2, fun _ => ⟨hL2, by rw [k1, ek, t0]⟩, b4, b5, b6, b7, b8, b9, b10, b11⟩
    obtain ⟨T1, T2', T3', T4'⟩ := T
    refine ⟨⟨T1.1.fr (fun i _ => o 2 i (by omega) (by omega)) (fun i _ => o 5 i (by omega) (by omega)), T1.2.1.fr (fun i => o 1 i (by omega) (by omega)) (fun i _ => o 2 i (by omega) (by omega)) (fun i => o 4 i (by omega) (by omega)) (fun i _ => o 5 i (by omega) (by omega)), ⟨L2, T3⟩, by rw [o 0 23 (by omega) (by omega)]; exact T1.2.2.2⟩, ⟨by rw [o 0 33 (by omega) (by omega), t0]; exact p1, fun z => ?_, Or.inr ⟨by rw [e27]; exact c, B, hB, by rw [e28, e6 2 (by decide)]; exact eB⟩, ?_⟩, T3'.fr (fun j => o 7 j (by omega) (by omega)) (fun j => o 11 j (by omega) (by omega)) (fun u _ => o 5 u (by omega) (by omega)) (fun j _ _ => o 0 j (by omega) (by omega)), T4'.fr (fun q j _ _ => o q j (by omega) (by omega)) (fun j _ _ => o 0 j (by omega) (by omega))⟩
    · rw [o 0 23 (by omega) (by omega), t0, hal] at z
      exact absurd z (by decide)
    · obtain ⟨T', F, b1, b2, b3, b4, b5⟩ := p4
      exact ⟨T', F, b1, b2, b3, by rw [o 0 34 (by omega) (by omega), t0]; exact b4, by rw [o 0 25 (by omega) (by omega), t0]; exact b5⟩
  · rw [Fbeg_no c]; exact T
/-- a state at which the driver sends its 22 -/
theorem Inv.ans {S : Nat} {m n : mD} (h : Inv S m) (hal : m 0 23 = 1) (hj : ¬ m 0 27 = 0) (o : ∀ q j, ¬ (q = 0 ∧ j = 27) → ¬ q = 3 → ¬ q = 20 → n q j = m q j) (e27 : n 0 27 = 0) (ek : n 3 1 = nI 22) : Inv S (Fsends 1 2 n) := by
  obtain ⟨⟨a1, a2, ⟨L, a3⟩, a4⟩, ⟨p1, p2, p3, p4⟩, h3, h4⟩ := h
  obtain ⟨eL, -⟩ := a3.2.2.1 hj
  subst eL
  have e35 := a3.2.2.2.2.2.2.1 (by decide)
  obtain ⟨e23, e34⟩ := a3.2.2.2.2.2.2.2.1 (by omega)
  have o0 : ∀ j, ¬ j = 27 → n 0 j = m 0 j := fun j hj => o 0 j (by omega) (by omega) (by omega)
  have n1 : iMan n := a1.fr (fun i _ => o 2 i (by omega) (by omega) (by omega)) (fun i _ => o 5 i (by omega) (by omega) (by omega))
  have m1 : iMs n := a2.fr (fun i => o 1 i (by omega) (by omega) (by omega)) (fun i _ => o 2 i (by omega) (by omega) (by omega)) (fun i => o 4 i (by omega) (by omega) (by omega)) (fun i _ => o 5 i (by omega) (by omega) (by omega))
  have T1 : iTk 2 n := a3.clr (fun i => o 1 i (by omega) (by omega) (by omega)) (fun i _ => Or.inl (o 2 i (by omega) (by omega) (by omega))) (fun i => o 4 i (by omega) (by omega) (by omega)) (fun i _ => Or.inl (o 5 i (by omega) (by omega) (by omega))) (Or.inr e27) (fun j hj => o0 j (by omega))
  have T0 : iTk 0 n := T1.zero (fun z => by omega) (fun _ => e27) (fun z => by omega) (fun z => by omega) (fun z => by omega)
  have d23 : n 0 23 = 1 := (o0 23 (by decide)).trans e23
  have ed : (dq 1 n).2.1 = nI 22 := ek
  have T2 := T0.ans n1 d23 (by rw [o0 34 (by decide), o0 25 (by decide)]; exact e34) (by rw [o0 35 (by decide)]; exact e35) (by rw [ed]; decide)
  have M2 := m1.sends n1 (by decide) (by decide) (Or.inr d23) (f := 1) (t := 2) (Or.inr (Or.inr (Or.inl ⟨rfl, Or.inr ⟨rfl, ed⟩⟩)))
  have Fr := Fsends_fr (f := 1) (t := 2) n1 (by decide) (by decide) (Or.inr d23)
  have fr : ∀ a j, (6 ≤ a ∨ (a = 0 ∧ j ≠ 6 ∧ j ≠ 7)) → Fsends 1 2 n a j = n a j := fun a j ha => Fr.1 a j ha
  refine ⟨⟨Fr.2.2.1, M2, T2, Or.inr (by rw [fr 0 23 (by omega)]; exact d23)⟩, ⟨by rw [fr 0 33 (by omega), o0 33 (by decide)]; exact p1, fun z => ?_, Or.inl (by rw [fr 0 27 (by omega)]; exact e27), ?_⟩, h3.fr (fun j => by rw [fr 7 j (by omega)]; exact o 7 j (by omega) (by omega) (by omega)) (fun j => by rw [fr 11 j (by omega)]; exact o 11 j (by omega) (by omega) (by omega)) (fun u hu => by rw [Fr.2.1 u (by omega)]; exact o 5 u (by omega) (by omega) (by omega)) (fun j _ _ => by rw [fr 0 j (by omega)]; exact o0 j (by omega)), h4.fr (fun q j _ _ => by rw [fr q j (by omega)]; exact o q j (by omega) (by omega) (by omega)) (fun j _ _ => by rw [fr 0 j (by omega)]; exact o0 j (by omega))⟩
  · rw [fr 0 23 (by omega), d23] at z
    exact absurd z (by decide)
  · obtain ⟨T', F, b1, b2, b3, b4, b5⟩ := p4
    exact ⟨T', F, b1, b2, b3, by rw [fr 0 34 (by omega), o0 34 (by decide)]; exact b4, by rw [fr 0 25 (by omega), o0 25 (by decide)]; exact b5⟩
theorem Inv.set26 {S : Nat} {m : mD} {v : Int32} (h : Inv S m) (hal : m 0 23 = 1) : Inv S (ab_up m 0 26 v) := by
  obtain ⟨h1, ⟨p1, p2, p3, p4⟩, h3, h4⟩ := h
  refine ⟨h1.fr (fun _ => ab_up_ne (by decide)) (fun _ _ => ab_up_ne (by decide)) (fun _ => ab_up_ne (by decide)) (fun _ _ => ab_up_ne (by decide)) (fun j hj => ab_up_nj (by omega)), ⟨p1, fun z => ?_, p3, p4⟩, h3.fr (fun _ => ab_up_ne (by decide)) (fun _ => ab_up_ne (by decide)) (fun _ _ => ab_up_ne (by decide)) (fun j _ _ => ab_up_nj (by omega)), h4.fr (fun q j _ _ => ab_up_ne (by omega)) (fun j _ _ => ab_up_nj (by omega))⟩
  rw [ab_up_nj (by decide), hal] at z
  exact absurd z (by decide)
theorem Inv.works {S : Nat} {m : mD} (h : Inv S m) (hal : m 0 23 = 1) (hj : ¬ m 0 27 = 0) : Inv S (Fworks m) ∧ Dworks m := by
  obtain ⟨k, B, hB, h28⟩ := (h.2.1.2.2.1).resolve_left hj
  have hc : (nI B).toNatClampNeg = B := nI_clamp (by omega)
  have p28 : ¬ m 0 28 < 0 := by rw [h28]; exact nI_pos (by omega)
  have D : ∀ n : mD, (∀ q j, ¬ (q = 0 ∧ j = 27) → ¬ q = 3 → ¬ q = 20 → n q j = m q j) → Dsends 1 2 n := fun n o => by
    obtain ⟨M, hM, hm⟩ := h.man.1 2 (by decide)
    exact (Fsends_cases (f := 1) (t := 2) (m := n) (by decide) (by decide) ((o 2 2 (by omega) (by omega) (by omega)).trans hm) hM (Or.inr ((o 0 23 (by omega) (by omega) (by omega)).trans hal))).1
  rw [Fworks, Dworks]
  by_cases c : m 0 26 = nI ((m 0 28).toNatClampNeg)
  · rw [if_pos c, Fdrafts_eq]
    rcases k with k | k
    · have o : ∀ q j, ¬ (q = 0 ∧ j = 27) → ¬ q = 3 → ¬ q = 20 → mD20 B m q j = m q j := fun q j h1 h2 h3 => by rw [mD20, ab_up_na h1, fil_q h2, mDr_q h2]
      have f1 := Fworks_47_20 hB k h28 (D _ o) 9 0 (by omega) (by omega)
      rw [fil_0] at f1
      dsimp only
      rw [f1.1]
      exact ⟨h.ans hal hj o (by rw [mD20, ab_up_eq]; exact nI00) (by rw [mD20, ab_up_ne (by decide), fil_out (by omega), mDr_3 (by decide)]; rfl), p28, fun _ => ⟨Ddrafts_ok _ _ _ _, f1.2⟩, fun z => absurd c z⟩
    · have o : ∀ q j, ¬ (q = 0 ∧ j = 27) → ¬ q = 3 → ¬ q = 20 → mD21 B m q j = m q j := fun q j h1 h2 h3 => by rw [mD21, ab_up_na h1, fil_q h3, mDr_q h2]
      have f1 := Fworks_47_21 hB k h28 (D _ o) 9 0 (by omega) (by omega)
      rw [fil_0] at f1
      dsimp only
      rw [f1.1]
      exact ⟨h.ans hal hj o (by rw [mD21, ab_up_eq]; exact nI00) (by rw [mD21, ab_up_ne (by decide), fil_q (by decide), mDr_3 (by decide)]; rfl), p28, fun _ => ⟨Ddrafts_ok _ _ _ _, f1.2⟩, fun z => absurd c z⟩
  · rw [if_neg c]
    refine ⟨?_, p28, fun z => absurd z c, fun _ => ⟨p28, trivial⟩⟩
    by_cases c2 : nI ((m 0 28).toNatClampNeg) ≤ m 0 26
    · rw [if_pos c2]; exact h.set26 hal
    · rw [if_neg c2]; exact h.set26 hal
theorem Inv.driver {S : Nat} {m : mD} (h : Inv S m) (hal : m 0 23 = 1) : Inv S (Fdriver m) := by
  rw [Fdriver]
  by_cases c : m 0 24 = 0
  · rw [if_pos c]
    have A := h.again (p := 1) (by decide)
    obtain ⟨-, -, -, a4⟩ := h.1.again (p := 1) (by decide)
    dsimp only
    by_cases c1 : (FsendsAgain 1 m).1 = 0
    · obtain ⟨e1, e2⟩ := a4 c1
      rw [if_pos c1, e1]
      obtain ⟨M, hM, hm⟩ := h.man.1 1 (by decide)
      obtain ⟨f, hf, f1, f2⟩ := first_ex (fun j => m 1 (13 * (12 * 1 + j) + 1) = nI 40) M
      have hcM : (nI M).toNatClampNeg = M := nI_clamp (by omega)
      have j0 : m 0 27 ≤ 0 ↔ m 0 27 = 0 := by
        constructor
        · intro z
          rcases h.2.1.2.2.1 with y | ⟨y, -⟩
          · exact y
          · rcases y with y | y <;> rw [y] at z <;> exact absurd z (by decide)
        · intro z; rw [z]; decide
      have hs : f < M → Ddrop 1 f m ∧ Dsends 1 0 (Fdrafts (nI 41) (nI 0) (nI 0) (Fdrop 1 f m)) := fun hfM => by
        obtain ⟨o1, o2⟩ := Fdrop_eq (p := 1) (by decide) hm hfM hM
        obtain ⟨M0, hM0, hm0⟩ := h.man.1 0 (by decide)
        refine ⟨o2, ?_⟩
        rw [o1, Fdrafts_eq]
        exact (Fsends_cases (f := 1) (t := 0) (by decide) (by decide) (by rw [mDr_q (by decide), mDrop_o (by decide) (by decide)]; exact hm0) hM0 (by rw [mDr_q (by decide), mDrop_o (by decide) (by decide)]; exact Or.inr hal)).1
      have h0 : ¬ f < M → Ddr0 m := fun _ => ⟨fun _ z => by
        rw [hm, hcM] at z
        have hM0 : 0 < M := by
          apply Classical.byContradiction
          intro y
          exact z (by rw [show M = 0 by omega]; decide)
        exact (FtakeOut_eq (p := 1) (k := 0) (by decide) hm hM0 hM).2, fun z => (h.works hal (fun y => z (j0.mpr y))).2⟩
      obtain ⟨g1, -⟩ := Fdriver_18_l hM hm hf f1 f2 hs h0 13 0 (by omega) (by omega)
      rw [g1]
      by_cases hfM : f < M
      · rw [if_pos hfM, (Fdrop_eq (p := 1) (by decide) hm hfM hM).1]
        obtain ⟨h1, h2, h3, h4⟩ := h
        have D1 := h1.drop (by decide) hm hM hfM
        obtain ⟨s1, s2, s3⟩ := D1.snd (f := 1) (t := 0) (k := nI 41) (a := nI 0) (b := nI 0) (by decide) (by decide) (Or.inr (Or.inr (Or.inl ⟨rfl, Or.inl ⟨rfl, rfl⟩⟩))) (by decide) (by decide) (by decide)
        have o : ∀ q j, ¬ q = 1 → ¬ (q = 2 ∧ j = 1) → mDrop 1 f m q j = m q j := fun q j a b => mDrop_o a b
        refine ⟨s1, h2.fr (Nat.le_refl _) (fun z => by rw [hal] at z; exact absurd z (by decide)) (fun j hj => by rw [s2 0 j (by omega)]; exact o 0 j (by omega) (by omega)), h3.fr (fun j => by rw [s2 7 j (by omega)]; exact o 7 j (by omega) (by omega)) (fun j => by rw [s2 11 j (by omega)]; exact o 11 j (by omega) (by omega)) (fun u hu => by rw [s3 u (by omega)]; exact o 5 u (by omega) (by omega)) (fun j _ _ => by rw [s2 0 j (by omega)]; exact o 0 j (by omega) (by omega)), h4.fr (fun q j _ _ => by rw [s2 q j (by omega)]; exact o q j (by omega) (by omega)) (fun j _ _ => by rw [s2 0 j (by omega)]; exact o 0 j (by omega) (by omega))⟩
      · rw [if_neg hfM, Fdr0, hm, hcM]
        by_cases z : m 0 27 ≤ 0
        · rw [if_pos z]
          by_cases y : nI M ≤ 0
          · rw [if_pos y]; exact h
          · have hM0 : 0 < M := by
              apply Classical.byContradiction
              intro w
              exact y (by rw [show M = 0 by omega]; decide)
            rw [if_neg y, (FtakeOut_eq (p := 1) (k := 0) (by decide) hm hM0 hM).1]
            exact h.beg hal (j0.mp z) hm hM hM0
        · rw [if_neg z]
          exact (h.works hal (fun y => z (j0.mpr y))).1
    · rw [if_neg c1]; exact A
  · rw [if_neg c]; exact h
