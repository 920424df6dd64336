/-! Whose turn is next: the DRIVER -/
theorem nx_works {S : Nat} {m : mD} (h : Inv S m) (hal : m 0 23 = 1) (hj : ¬ m 0 27 = 0) : Fworks m 0 48 = m 0 48 := by
  obtain ⟨k, B, hB, h28⟩ := (h.2.1.2.2.1).resolve_left hj
  have D : ∀ n : mD, (∀ q j, ¬ (q = 0 ∧ j = 27) → ¬ q = 3 → ¬ q = 20 → n q j = m q j) → Dsends 1 2 n ∧ Fsends 1 2 n 0 48 = m 0 48 := fun n o => by
    obtain ⟨M, hM, hm⟩ := h.man.1 2 (by decide)
    have hd : n 0 23 = 0 ∨ n 0 23 = 1 := Or.inr ((o 0 23 (by omega) (by omega) (by omega)).trans hal)
    have n1 : iMan n := h.man.fr (fun i _ => o 2 i (by omega) (by omega) (by omega)) (fun i _ => o 5 i (by omega) (by omega) (by omega))
    exact ⟨(Fsends_cases (f := 1) (t := 2) (m := n) (by decide) (by decide) ((o 2 2 (by omega) (by omega) (by omega)).trans hm) hM hd).1, ((Fsends_fr (f := 1) (t := 2) n1 (by decide) (by decide) hd).1 0 48 (by omega)).trans (o 0 48 (by omega) (by omega) (by omega))⟩
  rw [Fworks]
  by_cases c : m 0 26 = nI ((m 0 28).toNatClampNeg)
  · rw [if_pos c, Fdrafts_eq]
    rcases k with k | k
    · have o : ∀ q j, ¬ (q = 0 ∧ j = 27) → ¬ q = 3 → ¬ q = 20 → mD20 B m q j = m q j := fun q j h1 h2 h3 => by rw [mD20, ab_up_na h1, fil_q h2, mDr_q h2]
      have f1 := Fworks_47_20 hB k h28 (D _ o).1 9 0 (by omega) (by omega)
      rw [fil_0] at f1
      try dsimp only
      rw [f1.1]
      exact (D _ o).2
    · have o : ∀ q j, ¬ (q = 0 ∧ j = 27) → ¬ q = 3 → ¬ q = 20 → mD21 B m q j = m q j := fun q j h1 h2 h3 => by rw [mD21, ab_up_na h1, fil_q h3, mDr_q h2]
      have f1 := Fworks_47_21 hB k h28 (D _ o).1 9 0 (by omega) (by omega)
      rw [fil_0] at f1
      try dsimp only
      rw [f1.1]
      exact (D _ o).2
  · rw [if_neg c]
    by_cases c2 : nI ((m 0 28).toNatClampNeg) ≤ m 0 26
    · rw [if_pos c2]; exact ab_up_nj (by decide)
    · rw [if_neg c2]; exact ab_up_nj (by decide)
theorem nx_beg {m : mD} : Fbeg m 0 48 = m 0 48 := by
  by_cases c : m 6 1 = nI 20 ∨ m 6 1 = nI 21
  · rw [Fbeg_yes c, fil_q (by decide), ab_up_nj (by decide), ab_up_nj (by decide)]
  · rw [Fbeg_no c]
theorem nx_driver {S : Nat} {m : mD} (h : Inv S m) (hal : m 0 23 = 1) : Fdriver m 0 48 = m 0 48 := by
  rw [Fdriver]
  by_cases c : m 0 24 = 0
  · rw [if_pos c]
    obtain ⟨-, -, -, a4⟩ := h.1.again (p := 1) (by decide)
    try dsimp only
    by_cases c1 : (FsendsAgain 1 m).1 = 0
    · obtain ⟨e1, e2⟩ := a4 c1
      rw [if_pos c1, e1]
      obtain ⟨M, hM, hm⟩ := h.man.1 1 (by decide)
      obtain ⟨f, hf, f1, f2⟩ := first_ex (fun j => m 1 (13 * (12 * 1 + j) + 1) = nI 40) M
      have hcM : (nI M).toNatClampNeg = M := nI_clamp (by omega)
      have j0 : m 0 27 = 0 → m 0 27 ≤ 0 := fun z => by rw [z]; decide
      have hs : f < M → Ddrop 1 f m ∧ Dsends 1 0 (Fdrafts (nI 41) (nI 0) (nI 0) (Fdrop 1 f m)) := fun hfM => by
        obtain ⟨o1, o2⟩ := Fdrop_eq (p := 1) (by decide) hm hfM hM
        obtain ⟨M0, hM0, hm0⟩ := h.man.1 0 (by decide)
        refine ⟨o2, ?_⟩
        rw [o1, Fdrafts_eq]
        exact (Fsends_cases (f := 1) (t := 0) (by decide) (by decide) (by rw [mDr_q (by decide), mDrop_o (by decide) (by decide)]; exact hm0) hM0 (by rw [mDr_q (by decide), mDrop_o (by decide) (by decide)]; exact Or.inr hal)).1
      have h0 : ¬ f < M → Ddr0 m := fun _ => ⟨fun _ z => by
        rw [hm, hcM] at z
        have hM0 : 0 < M := by
          apply Classical.byContradiction
          intro y
          exact z (by rw [show M = 0 by omega]; decide)
        exact (FtakeOut_eq (p := 1) (k := 0) (by decide) hm hM0 hM).2, fun z => (h.works hal (fun y => z (j0 y))).2⟩
      obtain ⟨g1, -⟩ := Fdriver_18_l hM hm hf f1 f2 hs h0 13 0 (by omega) (by omega)
      rw [g1]
      by_cases hfM : f < M
      · rw [if_pos hfM, (Fdrop_eq (p := 1) (by decide) hm hfM hM).1]
        have D1 := h.1.drop (by decide) hm hM hfM
        obtain ⟨-, s2, -⟩ := D1.snd (f := 1) (t := 0) (k := nI 41) (a := nI 0) (b := nI 0) (by decide) (by decide) (Or.inr (Or.inr (Or.inl ⟨rfl, Or.inl ⟨rfl, rfl⟩⟩))) (by decide) (by decide) (by decide)
        rw [s2 0 48 (by omega)]; exact mDrop_o (by decide) (by decide)
      · rw [if_neg hfM, Fdr0, hm, hcM]
        by_cases z : m 0 27 ≤ 0
        · rw [if_pos z]
          by_cases y : nI M ≤ 0
          · rw [if_pos y]
          · have hM0 : 0 < M := by
              apply Classical.byContradiction
              intro w
              exact y (by rw [show M = 0 by omega]; decide)
            rw [if_neg y, (FtakeOut_eq (p := 1) (k := 0) (by decide) hm hM0 hM).1, nx_beg]
            exact nx_take
        · rw [if_neg z]
          exact nx_works h hal (fun y => z (j0 y))
    · rw [if_neg c1]; exact nx_again h (by decide)
  · rw [if_neg c]
