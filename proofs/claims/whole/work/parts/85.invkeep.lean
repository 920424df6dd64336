/-! THE INVARIANT, VI: the KEEPER's turn, a user's turn -/
theorem Inv.take {S t k M : Nat} {m : mD} (h : Inv S m) (ht : t < 12) (hm : m 2 t = nI M) (hM : M ≤ 12) (hk : k < M) : Inv S (mTake t k m) := by
  obtain ⟨h1, h2, h3, h4⟩ := h
  have o : ∀ q j, ¬ q = 1 → ¬ (q = 2 ∧ j = t) → ¬ q = 6 → mTake t k m q j = m q j := fun q j a b c => mTake_o a b c
  refine ⟨h1.take ht hm hM hk, h2.fr (Nat.le_refl _) (fun z => ?_) (fun j hj => o 0 j (by omega) (by omega) (by omega)), h3.fr (fun j => o 7 j (by omega) (by omega) (by omega)) (fun j => o 11 j (by omega) (by omega) (by omega)) (fun u _ => o 5 u (by omega) (by omega) (by omega)) (fun j _ _ => o 0 j (by omega) (by omega) (by omega)), h4.fr (fun q j hq hq2 => o q j (by omega) (by omega) (by omega)) (fun j _ _ => o 0 j (by omega) (by omega) (by omega))⟩
  by_cases c : t = 1
  · subst c
    have e := (h2.2.1 z).1
    have : M = 0 := (nI_eq (by omega) (by decide)).mp (hm.symm.trans e)
    omega
  · exact o 2 1 (by omega) (by omega) (by omega)
theorem Inv.man {S : Nat} {m : mD} (h : Inv S m) : iMan m := h.1.1
theorem Inv.user {S u : Nat} {m : mD} (h : Inv S m) (hu : u < 12) : Inv S (FofUser u m) := by
  obtain ⟨M, hM, hm⟩ := h.man.1 u hu
  have hc : (m 2 u).toNatClampNeg = M := by rw [hm]; exact nI_clamp (by omega)
  rw [FofUser, hc]
  by_cases e : M = 0
  · rw [if_pos e]; exact h
  · have T := h.take (k := 0) hu hm hM (by omega)
    rw [if_neg e, (FtakeOut_eq (k := 0) hu hm (by omega) hM).1]
    dsimp only
    by_cases c : mTake u 0 m 6 1 = nI 50
    · rw [if_pos c]
      exact T.fr (Nat.le_refl _) (fun q j hq => by rw [ab_up_ne (by omega), ab_up_ne (by omega), ab_up_ne (by omega)]) (fun j _ => by rw [ab_up_ne (by decide), ab_up_ne (by decide), ab_up_ne (by decide)])
    · rw [if_neg c]; exact T
theorem Inv.set33 {S : Nat} {m : mD} {v : Int32} (h : Inv S m) (hv : v = 0 ∨ v = 1) : Inv S (ab_up m 0 33 v) := by
  obtain ⟨h1, ⟨p1, p2, p3, p4⟩, h3, h4⟩ := h
  exact ⟨h1.fr (fun _ => ab_up_ne (by decide)) (fun _ _ => ab_up_ne (by decide)) (fun _ => ab_up_ne (by decide)) (fun _ _ => ab_up_ne (by decide)) (fun j hj => ab_up_nj (by omega)), ⟨by rw [ab_up_eq]; exact hv, p2, p3, p4⟩, h3.fr (fun _ => ab_up_ne (by decide)) (fun _ => ab_up_ne (by decide)) (fun _ _ => ab_up_ne (by decide)) (fun j _ _ => ab_up_nj (by omega)), h4.fr (fun q j _ _ => ab_up_ne (by omega)) (fun j _ _ => ab_up_nj (by omega))⟩
theorem Inv.chk {S : Nat} {m : mD} (h : Inv S m) (hal : m 0 23 = 1) : Inv S (Fchk m) := by
  rw [Fchk]
  by_cases c : m 0 31 - m 0 31 / nI 10 * nI 10 = 0
  · rw [if_pos c]
    by_cases c2 : m 0 33 = 0
    · rw [if_pos c2]
      obtain ⟨h1, h2, h3, h4⟩ := h.set33 (v := nI 1) (Or.inr rfl)
      obtain ⟨s1, s2, s3⟩ := h1.snd (f := 0) (t := 1) (k := nI 40) (a := nI 0) (b := nI 0) (by decide) (by decide) (Or.inr (Or.inl ⟨rfl, Or.inl ⟨rfl, rfl⟩⟩)) (by decide) (by decide) (by decide)
      refine ⟨s1, h2.fr (Nat.le_refl _) (fun z => ?_) (fun j hj => s2 0 j (by omega)), h3.fr (fun j => s2 7 j (by omega)) (fun j => s2 11 j (by omega)) (fun u hu => s3 u (by omega)) (fun j _ _ => s2 0 j (by omega)), h4.fr (fun q j _ _ => s2 q j (by omega)) (fun j _ _ => s2 0 j (by omega))⟩
      rw [ab_up_nj (by decide), hal] at z
      exact absurd z (by decide)
    · rw [if_neg c2]
      exact h.crash.set33 (Or.inl nI00)
  · rw [if_neg c]; exact h
theorem Inv.starts {S : Nat} {m : mD} (hm : iMM m) (h5 : m 5 0 = -1) (hd : m 0 23 = 0) (hl : iLf S m) (hS : S < 1000000000) (h3 : iP3 m) (h4 : iP4 m) (h21 : m 2 1 = nI 0) (h27 : m 0 27 = 0) : Inv (S + 1) (Fstarts m) := by
  obtain ⟨a1, a2, ⟨L, a3⟩, a4⟩ := hm
  obtain ⟨T, F, b1, b2, b3, b4, b5⟩ := hl
  have o : ∀ q j, ¬ (q = 0 ∧ (j = 23 ∨ j = 24 ∨ j = 25 ∨ j = 26 ∨ j = 27 ∨ j = 33)) → ¬ (q = 2 ∧ j = 1) → mStart m q j = m q j := fun q j h1 h2 => by
    rw [mStart, ab_up_na (by omega), ab_up_na (by omega), ab_up_na (by omega), ab_up_na (by omega), ab_up_na (by omega), ab_up_na (by omega), ab_up_na (by omega)]
  have e23 : mStart m 0 23 = 1 := rfl
  have e25 : mStart m 0 25 = nI (F + 1) := by
    show m 0 25 + nI 1 = _
    rw [b5, nI_inc]
  have e27 : mStart m 0 27 = 0 := rfl
  have e33 : mStart m 0 33 = 0 := rfl
  have e21 : mStart m 2 1 = nI 0 := rfl
  have o1 : ∀ i, mStart m 1 i = m 1 i := fun i => o 1 i (by omega) (by omega)
  have o4 : ∀ i, mStart m 4 i = m 4 i := fun i => o 4 i (by omega) (by omega)
  have o2 : ∀ i, mStart m 2 i = m 2 i := fun i => by
    by_cases c : i = 1
    · subst c; rw [e21, h21]
    · exact o 2 i (by omega) (by omega)
  have o5 : ∀ i, mStart m 5 i = m 5 i := fun i => o 5 i (by omega) (by omega)
  have hL : ¬ (L = 1 ∨ L = 2 ∨ L = 5) := fun z => by
    have e := (a3.2.2.2.2.2.2.2.1 z).1
    rw [hd] at e
    exact absurd e (by decide)
  have T1 : iTk L (mStart m) := a3.life hL o1 (fun i _ => o2 i) o4 (fun i _ => o5 i) (fun j hj => by
    by_cases c : j = 27
    · subst c; rw [e27, h27]
    · exact o 0 j (by omega) (by omega)) (by rw [e25, b5]; exact nI_le (by omega) (by omega))
  have n1 : iMan (mStart m) := a1.fr (fun i _ => o2 i) (fun i _ => o5 i)
  have m1 : iMs (mStart m) := a2.fr o1 (fun i _ => o2 i) o4 (fun i _ => o5 i)
  have hd1 : mStart m 0 23 = 0 ∨ mStart m 0 23 = 1 := Or.inr e23
  have e34 : mStart m 0 34 = nI T := (o 0 34 (by omega) (by omega)).trans b4
  have T2 := T1.dr (k := nI 42) (a := mStart m 0 25) (b := nI 0)
  have q : ∀ a j, a ≠ 3 → mDr (nI 42) (mStart m 0 25) (nI 0) (mStart m) a j = mStart m a j := fun a j h => mDr_q h
  have T3 := T2.tell n1.dr (by rw [q 0 23 (by decide)]; exact hd1) (by rw [q 5 0 (by decide), o5]; exact h5) (by rw [dq_dr]) (by
    rw [dq_dr, q 0 34 (by decide), q 0 25 (by decide), e34, e25]
    exact ⟨nI_lt (by omega) (by omega), Int32.le_refl _⟩) (fun M k hM e hk z => by
    rw [mq_fr (fun i => q 1 i (by decide)), mq_fr o1] at z ⊢
    rw [q 2 2 (by decide), o2] at e
    have d := (a3.2.2.2.2.2.2.2.2.2.1 M k hM e hk z).2
    rw [dq_dr, e25]
    rw [b5] at d
    exact Int32.lt_of_le_of_lt d (nI_lt (by omega) (by omega)))
  have M3 := m1.snd (k := nI 42) (a := mStart m 0 25) (b := nI 0) n1 (by decide) (by decide) hd1 (f := 0) (t := 2) (Or.inr (Or.inl ⟨rfl, Or.inr ⟨rfl, rfl, by show ¬ mStart m 0 25 = 0; rw [e25]; exact nI_ne0 (by omega) (by omega)⟩⟩))
  have Fr := Fsends_fr (f := 0) (t := 2) n1.dr (by decide) (by decide) (show mDr (nI 42) (mStart m 0 25) (nI 0) (mStart m) 0 23 = 0 ∨ mDr (nI 42) (mStart m 0 25) (nI 0) (mStart m) 0 23 = 1 by rw [q 0 23 (by decide)]; exact hd1)
  rw [Fstarts_eq.1]
  rw [Fdrafts_eq] at M3 ⊢
  have fr : ∀ a j, (6 ≤ a ∨ (a = 0 ∧ j ≠ 6 ∧ j ≠ 7)) → Fsends 0 2 (mDr (nI 42) (mStart m 0 25) (nI 0) (mStart m)) a j = mStart m a j := fun a j ha => (Fr.1 a j ha).trans (q a j (by omega))
  refine ⟨⟨Fr.2.2.1, M3, ⟨L, T3⟩, by rw [fr 0 23 (by omega)]; exact hd1⟩, ⟨Or.inl (by rw [fr 0 33 (by omega)]; exact e33), fun z => ?_, Or.inl (by rw [fr 0 27 (by omega)]; exact e27), T, F + 1, b1, by omega, by omega, by rw [fr 0 34 (by omega)]; exact e34, by rw [fr 0 25 (by omega)]; exact e25⟩, h3.fr (fun j => by rw [fr 7 j (by omega)]; exact o 7 j (by omega) (by omega)) (fun j => by rw [fr 11 j (by omega)]; exact o 11 j (by omega) (by omega)) (fun u hu => by rw [Fr.2.1 u (by omega), q 5 u (by decide)]; exact o5 u) (fun j _ _ => by rw [fr 0 j (by omega)]; exact o 0 j (by omega) (by omega)), h4.fr (fun q2 j _ _ => by rw [fr q2 j (by omega)]; exact o q2 j (by omega) (by omega)) (fun j _ _ => by rw [fr 0 j (by omega)]; exact o 0 j (by omega) (by omega))⟩
  rw [fr 0 23 (by omega), e23] at z
  exact absurd z (by decide)
theorem Inv.mono {S S' : Nat} {m : mD} (h : Inv S m) (hS : S ≤ S') : Inv S' m := ⟨h.1, h.2.1.S hS, h.2.2.1, h.2.2.2⟩
theorem Inv.k2 {S : Nat} {m : mD} (h : Inv S m) (h5 : m 5 0 = -1) (hS : S < 1000000000) : Inv (S + 1) (Fk2 m) := by
  rw [Fk2]
  by_cases c : m 0 23 = 0
  · rw [if_pos c, Fdead]
    obtain ⟨h1, ⟨p1, p2, p3, p4⟩, h3, h4⟩ := h
    obtain ⟨d1, d2, d3, d4, d5⟩ := p2 c
    have g : ∀ q j, ¬ (q = 0 ∧ j = 32) → (ab_up m 0 32 (m 0 32 + nI 1)) q j = m q j := fun q j hq => ab_up_na hq
    have h1' : iMM (ab_up m 0 32 (m 0 32 + nI 1)) := h1.fr (fun i => g 1 i (by omega)) (fun i _ => g 2 i (by omega)) (fun i => g 4 i (by omega)) (fun i _ => g 5 i (by omega)) (fun j _ => g 0 j (by omega))
    have h3' : iP3 (ab_up m 0 32 (m 0 32 + nI 1)) := h3.fr (fun j => g 7 j (by omega)) (fun j => g 11 j (by omega)) (fun u _ => g 5 u (by omega)) (fun j _ _ => g 0 j (by omega))
    have h4' : iP4 (ab_up m 0 32 (m 0 32 + nI 1)) := h4.fr (fun q j _ _ => g q j (by omega)) (fun j _ _ => g 0 j (by omega))
    have e32 : (ab_up m 0 32 (m 0 32 + nI 1)) 0 32 = m 0 32 + nI 1 := ab_up_eq
    by_cases c3 : (ab_up m 0 32 (m 0 32 + nI 1)) 0 32 = nI 3
    · rw [if_pos c3]
      exact Inv.starts h1' (by rw [g 5 0 (by omega)]; exact h5) (by rw [g 0 23 (by omega)]; exact c) p4 hS h3' h4' (by rw [g 2 1 (by omega)]; exact d1) (by rw [g 0 27 (by omega)]; exact d4)
    · rw [if_neg c3]
      refine Inv.mono (S := S) ⟨h1', ⟨p1, fun _ => ⟨d1, d2, d3, d4, ?_⟩, p3, p4⟩, h3', h4'⟩ (by omega)
      rw [e32] at c3 ⊢
      rcases d5 with z | z | z
      · rw [z]; exact Or.inr (Or.inl (by decide))
      · rw [z]; exact Or.inr (Or.inr (by decide))
      · rw [z] at c3; exact absurd (by decide) c3
  · have hal : m 0 23 = 1 := h.1.2.2.2.resolve_left c
    obtain ⟨M, hM, hm⟩ := h.man.1 0 (by decide)
    have hc : (m 2 0).toNatClampNeg = M := by rw [hm]; exact nI_clamp (by omega)
    refine Inv.mono (S := S) ?_ (by omega)
    rw [if_neg c, hc]
    by_cases c0 : nI M ≤ 0
    · rw [if_pos c0]; exact h.chk hal
    · have hM0 : 0 < M := by
        apply Classical.byContradiction
        intro z
        exact c0 (by rw [show M = 0 by omega]; decide)
      have T := h.take (k := 0) (by decide) hm hM hM0
      have t23 : mTake 0 0 m 0 23 = 1 := (mTake_o (by decide) (by decide) (by decide)).trans hal
      rw [if_neg c0, (FtakeOut_eq (p := 0) (k := 0) (by decide) hm hM0 hM).1]
      have u23 : ∀ v : Int32, (ab_up (mTake 0 0 m) 0 33 v) 0 23 = 1 := fun v => by rw [ab_up_nj (by decide)]; exact t23
      by_cases k0 : mTake 0 0 m 6 1 = 0
      · rw [if_pos k0]; exact T
      · rw [if_neg k0]
        by_cases k1 : mTake 0 0 m 0 33 = 0
        · rw [if_pos k1]; exact (T.set33 (Or.inl nI00)).chk (u23 _)
        · rw [if_neg k1]
          by_cases k2 : mTake 0 0 m 6 1 = nI 41
          · rw [if_pos k2]; exact (T.set33 (Or.inl nI00)).chk (u23 _)
          · rw [if_neg k2]; exact (T.set33 (Or.inr rfl)).chk (u23 _)
theorem Inv.keeper {S : Nat} {m : mD} (h : Inv S m) (hS : S < 1000000000) : Inv (S + 1) (Fkeeper m) := by
  rw [Fkeeper_eq]
  have h1 : Inv S (ab_up m 0 31 (m 0 31 + nI 1)) := h.fr (Nat.le_refl _) (fun q j hq => ab_up_ne (by omega)) (fun j hj => ab_up_nj (by omega))
  have A := h1.again (p := 0) (by decide)
  obtain ⟨-, -, -, a4⟩ := h1.1.again (p := 0) (by decide)
  by_cases c : (FsendsAgain 0 (ab_up m 0 31 (m 0 31 + nI 1))).1 = 0
  · obtain ⟨e1, e2⟩ := a4 c
    rw [if_pos c, e1]
    exact h1.k2 e2 hS
  · rw [if_neg c]
    exact A.mono (by omega)
