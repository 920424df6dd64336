/-! Whose turn is next: no turn's work touches it -/
theorem nx_again {S p : Nat} {m : mD} (h : Inv S m) (hp : p < 4) : (FsendsAgain p m).2 0 48 = m 0 48 := (h.1.again (p := p) (by omega)).2.1 0 48 (by omega)
theorem nx_take {t k : Nat} {m : mD} : mTake t k m 0 48 = m 0 48 := mTake_o (by decide) (by omega) (by decide)
theorem nx_chk {S : Nat} {m : mD} (h : Inv S m) : Fchk m 0 48 = m 0 48 := by
  rw [Fchk]
  by_cases c : m 0 31 - m 0 31 / nI 10 * nI 10 = 0
  · rw [if_pos c]
    by_cases c2 : m 0 33 = 0
    · rw [if_pos c2]
      have H := h.set33 (v := nI 1) (Or.inr rfl)
      rw [(H.1.snd (f := 0) (t := 1) (k := nI 40) (a := nI 0) (b := nI 0) (by decide) (by decide) (Or.inr (Or.inl ⟨rfl, Or.inl ⟨rfl, rfl⟩⟩)) (by decide) (by decide) (by decide)).2.1 0 48 (by omega), ab_up_nj (by decide)]
    · rw [if_neg c2]; rfl
  · rw [if_neg c]
theorem nx_starts {m : mD} (hn : iMan m) (h21 : m 2 1 = nI 0) : Fstarts m 0 48 = m 0 48 := by
  have o5 : ∀ i, mStart m 5 i = m 5 i := fun i => rfl
  have n1 : iMan (mStart m) := hn.clr (fun i _ => by
    by_cases c : i = 1
    · subst c; exact Or.inr rfl
    · exact Or.inl (by
        show ab_up (ab_up (ab_up (ab_up (ab_up (ab_up (ab_up m 0 23 (nI 1)) 0 24 (nI 0)) 0 25 (m 0 25 + nI 1)) 0 26 (nI 0)) 0 27 (nI 0)) 2 1 (nI 0)) 0 33 (nI 0) 2 i = m 2 i
        rw [ab_up_ne (by decide), ab_up_nj c, ab_up_ne (by decide), ab_up_ne (by decide), ab_up_ne (by decide), ab_up_ne (by decide), ab_up_ne (by decide)])) (fun i _ => Or.inl (o5 i))
  rw [Fstarts_eq.1, Fdrafts_eq, (Fsends_fr (f := 0) (t := 2) n1.dr (by decide) (by decide) (Or.inr rfl)).1 0 48 (by omega), mDr_q (by decide)]
  rfl
theorem nx_keeper {S : Nat} {m : mD} (h : Inv S m) : Fkeeper m 0 48 = m 0 48 := by
  rw [Fkeeper_eq]
  have h1 : Inv S (ab_up m 0 31 (m 0 31 + nI 1)) := h.fr (Nat.le_refl _) (fun q j hq => ab_up_ne (by omega)) (fun j hj => ab_up_nj (by omega))
  have e48 : (ab_up m 0 31 (m 0 31 + nI 1)) 0 48 = m 0 48 := ab_up_nj (by decide)
  obtain ⟨-, -, -, a4⟩ := h1.1.again (p := 0) (by decide)
  by_cases c : (FsendsAgain 0 (ab_up m 0 31 (m 0 31 + nI 1))).1 = 0
  · obtain ⟨e1, e2⟩ := a4 c
    rw [if_pos c, e1]
    refine Eq.trans ?_ e48
    generalize ab_up m 0 31 (m 0 31 + nI 1) = n at *
    rw [Fk2]
    by_cases c0 : n 0 23 = 0
    · rw [if_pos c0, Fdead]
      have g : (ab_up n 0 32 (n 0 32 + nI 1)) 0 48 = n 0 48 := ab_up_nj (by decide)
      by_cases c3 : (ab_up n 0 32 (n 0 32 + nI 1)) 0 32 = nI 3
      · rw [if_pos c3, nx_starts (h1.man.fr (fun _ _ => ab_up_ne (by decide)) (fun _ _ => ab_up_ne (by decide))) (by rw [ab_up_ne (by decide)]; exact (h1.2.1.2.1 c0).1)]
        exact g
      · rw [if_neg c3]; exact g
    · rw [if_neg c0]
      obtain ⟨M, hM, hm⟩ := h1.man.1 0 (by decide)
      have hc : (n 2 0).toNatClampNeg = M := by rw [hm]; exact nI_clamp (by omega)
      rw [hc]
      by_cases cM : nI M ≤ 0
      · rw [if_pos cM]; exact nx_chk h1
      · have hM0 : 0 < M := by
          apply Classical.byContradiction
          intro z
          exact cM (by rw [show M = 0 by omega]; decide)
        have T := h1.take (k := 0) (by decide) hm hM hM0
        rw [if_neg cM, (FtakeOut_eq (p := 0) (k := 0) (by decide) hm hM0 hM).1]
        have u : ∀ v : Int32, (v = 0 ∨ v = 1) → Fchk (ab_up (mTake 0 0 n) 0 33 v) 0 48 = n 0 48 := fun v hv => by
          rw [nx_chk (T.set33 hv), ab_up_nj (by decide)]; exact nx_take
        by_cases k0 : mTake 0 0 n 6 1 = 0
        · rw [if_pos k0]; exact nx_take
        · rw [if_neg k0]
          by_cases k1 : mTake 0 0 n 0 33 = 0
          · rw [if_pos k1]; exact u _ (Or.inl nI00)
          · rw [if_neg k1]
            by_cases k2 : mTake 0 0 n 6 1 = nI 41
            · rw [if_pos k2]; exact u _ (Or.inl nI00)
            · rw [if_neg k2]; exact u _ (Or.inr rfl)
  · rw [if_neg c]
    exact (nx_again h1 (by decide)).trans e48
theorem nx_user {S u : Nat} {m : mD} (h : Inv S m) (hu : u < 12) : FofUser u m 0 48 = m 0 48 := by
  obtain ⟨M, hM, hm⟩ := h.man.1 u hu
  have hc : (m 2 u).toNatClampNeg = M := by rw [hm]; exact nI_clamp (by omega)
  rw [FofUser, hc]
  by_cases e : M = 0
  · rw [if_pos e]
  · rw [if_neg e, (FtakeOut_eq (k := 0) hu hm (by omega) hM).1]
    dsimp only
    by_cases c : mTake u 0 m 6 1 = nI 50
    · rw [if_pos c, ab_up_ne (by decide), ab_up_ne (by decide), ab_up_ne (by decide)]; exact nx_take
    · rw [if_neg c]; exact nx_take
