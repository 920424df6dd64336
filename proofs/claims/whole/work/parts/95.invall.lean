/-! THE INVARIANT, XVI: FILES' turn; what a turn wants; the face -/
theorem Inv.files {S : Nat} {x : xD} {m : mD} (h : Inv S m) (hS : S < 1000000000) (hR : R3 x m) (htl : ¬ m 0 34 = 0) (hi : iFls m) : Inv S (Ffiles m) := by
  have hd := h.1.2.2.2
  have hfm := h.fim
  have A := h.again (p := 2) (by decide)
  obtain ⟨-, -, -, a4⟩ := h.1.again (p := 2) (by decide)
  rw [Ffiles]
  try dsimp only
  by_cases c1 : (FsendsAgain 2 m).1 = 0
  · obtain ⟨e1, e2⟩ := a4 c1
    rw [if_pos c1, e1]
    obtain ⟨M, hM, hm⟩ := h.man.1 2 (by decide)
    by_cases z : m 0 35 = 0
    · rw [(Ffiles_11_0 (n := 13) hM hm z (fun h0 => by
        obtain ⟨p1, -, p4, -⟩ := ftake_rel (k := 0) hR hd e2 htl hi hfm h0 hM hm (fun y => absurd z y)
        exact ⟨p1, p4⟩)).1]
      by_cases h0 : 0 < M
      · rw [if_pos h0]; exact h.ftake hS e2 hm hM h0 (fun y => absurd z y) (fun _ => rfl)
      · rw [if_neg h0]; exact h
    · obtain ⟨f, hf, f1, f2⟩ := first_ex (fun j => m 1 (13 * (12 * 2 + j) + 1) = 0 ∨ m 1 (13 * (12 * 2 + j) + 0) ≤ nI 1) M
      rw [(Ffiles_11_l hM hm z hf f1 f2 (fun hfM => by
        obtain ⟨p1, -, p4, -⟩ := ftake_rel (k := f) hR hd e2 htl hi hfm hfM hM hm (fun _ => f2 hfM)
        exact ⟨p1, p4⟩) 14 0 (by omega) (by omega)).1]
      by_cases hfM : f < M
      · rw [if_pos hfM]; exact h.ftake hS e2 hm hM hfM (fun _ => ⟨f2 hfM, f1⟩) (fun y => absurd y z)
      · rw [if_neg hfM]; exact h
  · rw [if_neg c1]; exact A
theorem Inv.no22 {S : Nat} {m : mD} (h : Inv S m) (h35 : m 0 35 = 0) : no22 m := by
  have T := h.noreq h35
  refine ⟨fun p M j hp hM hm hj z => ?_, fun p hp hn z => ?_⟩
  · obtain ⟨f, hf, -, hs⟩ := h.1.2.1.1 p M j hp hM hm hj
    obtain ⟨-, rfl⟩ := (kind_of hs).1 z
    exact absurd (T.2.2.2.2.1 M j hM hm hj z) (by decide)
  · obtain ⟨t, ht, e⟩ := (h.man.2 p hp).resolve_left hn
    obtain ⟨rfl, rfl⟩ := (kind_of (h.1.2.1.2 p t hp ht e)).1 z
    exact absurd (T.2.2.2.2.2.1 e) (by decide)
theorem Inv.all {S : Nat} {m : mD} (h : Inv S m) (hS : S < 1000000000) : iAll m := by
  have hn := h.no22
  have hp := h.prm
  have hf := h.fim
  obtain ⟨⟨a1, a2, ⟨L, a3⟩, a4⟩, ⟨p1, p2, p3, T, F, b1, b2, b3, b4, b5⟩, ⟨c1, c2, c3, c4, c5⟩, ⟨d1, d2, d3, d4, d5, d6, d7, d8, d9, d10⟩⟩ := h
  refine ⟨by rw [b4]; exact nI_ne0 (by omega) (by omega), a4, p2, p1, ⟨?_, fun k M hM hm hk z => ?_⟩, ⟨c1, c2, c3, hp, c4, c5⟩, ⟨d1, d2, d3, d4, d5, d6, d7, d8, d9, hn⟩, hf⟩
  · rcases p3 with z | ⟨z, y⟩
    · exact Or.inl z
    · refine Or.inr ⟨?_, y⟩
      rcases z with z | z
      · exact Or.inl z
      · have e := (a3.2.2.1 (by rw [z]; decide)).2
        exact Or.inr ⟨z, e.symm.trans z⟩
  · exact blk_of (a2.1 1 M k (by decide) hM hm hk) z
theorem Inv.T {S k : Nat} {m : mD} (h : Inv S m) : Inv S (mT k m) := h.fr (Nat.le_refl _) (fun q j hq => by rw [mT, ab_up_ne (by omega), ab_up_ne (by omega)]) (fun j hj => by rw [mT, ab_up_nj (by omega), ab_up_nj (by omega)])
/-- a turn keeps the invariant -/
theorem Inv.turn {S k : Nat} {x : xD} {m : mD} (h : Inv S m) (hS : S < 1000000000) (hR : R3 x m) (hk : k < 12) (h48 : m 0 48 = nI k) : Inv (S + 1) (Fturn m) := by
  have hc : (nI k).toNatClampNeg = k := nI_clamp (by omega)
  have H := h.T (k := k)
  have R := T_rel (k := k) hR
  have A := H.all hS
  obtain ⟨htl, hd, -, -, -, hpr, hfi, -⟩ := A
  have e47 : ab_up m 0 48 (nI ((k + 1) % 12)) 0 47 = m 0 47 := ab_up_nj (by decide)
  have emT : ab_up (ab_up m 0 48 (nI ((k + 1) % 12))) 0 47 (m 0 47 + nI 1) = mT k m := rfl
  rw [Fturn, h48, hc]
  dsimp only
  rw [e47, emT]
  by_cases ln : Flives k (mT k m) = 0
  · rw [if_pos ln]; exact H.mono (by omega)
  · rw [if_neg ln]
    by_cases k0 : k = 0
    · rw [if_pos k0]; exact H.keeper hS
    · rw [if_neg k0]
      by_cases k1 : k = 1
      · subst k1
        have hal : mT 1 m 0 23 = 1 := by
          rcases hd with z | z
          · exfalso
            apply ln
            rw [Flives, if_pos rfl, z]
          · exact z
        rw [if_pos rfl]; exact (H.driver hal).mono (by omega)
      · rw [if_neg k1]
        by_cases k2 : k = 2
        · rw [if_pos k2]; exact (H.files hS R htl hfi).mono (by omega)
        · rw [if_neg k2]
          by_cases k3 : k = 3
          · rw [if_pos k3]; exact (H.processes R htl hpr).mono (by omega)
          · rw [if_neg k3]; exact (H.user hk).mono (by omega)
theorem Inv.thr {S : Nat} {m : mD} {v : Int32} (h : Inv S m) : Inv S (ab_up m 0 0 v) := h.fr (Nat.le_refl _) (fun q j hq => ab_up_ne (by omega)) (fun j hj => ab_up_nj (by omega))
theorem Inv.set24 {S : Nat} {m : mD} {v : Int32} (h : Inv S m) (hal : ¬ m 0 23 = 0) : Inv S (ab_up m 0 24 v) := by
  obtain ⟨h1, ⟨p1, p2, p3, p4⟩, h3, h4⟩ := h
  exact ⟨h1.fr (fun _ => ab_up_ne (by decide)) (fun _ _ => ab_up_ne (by decide)) (fun _ => ab_up_ne (by decide)) (fun _ _ => ab_up_ne (by decide)) (fun j hj => ab_up_nj (by omega)), ⟨p1, fun z => absurd z hal, p3, p4⟩, h3.fr (fun _ => ab_up_ne (by decide)) (fun _ => ab_up_ne (by decide)) (fun _ _ => ab_up_ne (by decide)) (fun j _ _ => ab_up_nj (by omega)), h4.fr (fun q j _ _ => ab_up_ne (by omega)) (fun j _ _ => ab_up_nj (by omega))⟩
theorem Inv.crashF {S : Nat} {m : mD} (h : Inv S m) : Inv S (Fcrash m).2 := by
  rw [Fcrash]
  dsimp only
  by_cases c : (ab_up m 0 0 (nI 0)) 0 23 = 0
  · rw [if_pos c]; exact h.thr
  · rw [if_neg c]; exact h.thr.crash
theorem Inv.hangF {S : Nat} {m : mD} (h : Inv S m) : Inv S (Fhang m).2 := by
  rw [Fhang]
  dsimp only
  by_cases c : (ab_up m 0 0 (nI 0)) 0 23 = 0
  · rw [if_pos c]; exact h.thr
  · rw [if_neg c]
    by_cases c2 : (ab_up m 0 0 (nI 0)) 0 24 = 0
    · rw [if_pos c2]; exact h.thr.set24 c
    · rw [if_neg c2]; exact h.thr
/-- a loose message: a user's call, or forced -/
theorem Inv.send1 {S f t : Nat} {m : mD} {k a b w : Int32} (h : Inv S m) (hf : f < 12) (ht : t < 12) (hq : okS f t (nI f, k, a, b)) (hk : ¬ k = nI 20 ∧ ¬ k = nI 21 ∧ ¬ k = nI 22 ∧ ¬ k = nI 42) : Inv S (Fsend f t w (Fdrafts k a b m)).2 := by
  obtain ⟨⟨a1, a2, ⟨L, a3⟩, a4⟩, h2, h3, h4⟩ := h
  have hd : mDr k a b m 0 23 = 0 ∨ mDr k a b m 0 23 = 1 := by rw [mDr_q (by decide)]; exact a4
  rw [Fdrafts_eq]
  have s2 := a2.dr.send1 (w := w) (a1.dr (k := k) (a := a) (b := b)) hf ht hd (by rw [dq_dr]; exact hq)
  have s3 := a3.dr.neu1 (w := w) (a1.dr (k := k) (a := a) (b := b)) hf ht hd (by rw [dq_dr]; exact hk)
  obtain ⟨M, hM, hm⟩ := (a1.dr (k := k) (a := a) (b := b)).1 t ht
  have n1 := a1.dr (k := k) (a := a) (b := b)
  have fr : FrM (mDr k a b m) (Fsend f t w (mDr k a b m)).2 ∧ (∀ p, (Fsend f t w (mDr k a b m)).2 5 p = mDr k a b m 5 p) ∧ iMan (Fsend f t w (mDr k a b m)).2 ∧ (mDr k a b m 0 23 = 0 → (Fsend f t w (mDr k a b m)).2 2 1 = mDr k a b m 2 1) := by
    rw [(Fsend_eq (b := w) hf ht hm hM hd).1]
    generalize mDr k a b m = n at *
    by_cases c1 : FisAllowed (nI f) (nI t) = 0
    · rw [if_pos c1]
      exact ⟨fun q j hq => (mForb_o (by omega) : mForb n q j = n q j), fun p => (mForb_o (by omega) : mForb n 5 p = n 5 p), n1.fr (m' := mForb n) (fun i _ => mForb_o (by omega)) (fun i _ => mForb_o (by omega)), fun _ => (mForb_o (by omega) : mForb n 2 1 = n 2 1)⟩
    · rw [if_neg c1]
      by_cases c2 : Flives t n = 0
      · rw [if_pos c2]; exact ⟨fun _ _ _ => rfl, fun _ => rfl, n1, fun _ => rfl⟩
      · rw [if_neg c2]
        by_cases c3 : ¬ w = 0 ∧ f = 2 ∧ t = 1 ∧ ¬ n 0 34 = n 0 25
        · rw [if_pos c3]; exact ⟨fun _ _ _ => rfl, fun _ => rfl, n1, fun _ => rfl⟩
        · rw [if_neg c3]
          by_cases c4 : M = 12
          · rw [if_pos c4]; exact ⟨fun _ _ _ => rfl, fun _ => rfl, n1, fun _ => rfl⟩
          · rw [if_neg c4]
            have o5 : ∀ p, mPut t (ab_up n 3 0 (nI f)) 5 p = n 5 p := fun p => by rw [mPut_o (by omega) (by decide) (by omega), ab_up_ne (by decide)]
            obtain ⟨p1, -, -⟩ := mq_put_t (f := f) hm (show M < 12 by omega)
            refine ⟨fun q j hq => by show mPut t (ab_up n 3 0 (nI f)) q j = _; rw [mPut_o (by omega) (by omega) (by omega), ab_up_ne (by omega)], o5, ⟨fun q hq => ?_, fun q hq => by show mPut t (ab_up n 3 0 (nI f)) 5 q = -1 ∨ _; rw [o5]; exact n1.2 q hq⟩, fun z => ?_⟩
            · show ∃ M, M ≤ 12 ∧ mPut t (ab_up n 3 0 (nI f)) 2 q = nI M
              by_cases e : q = t
              · subst e; exact ⟨M + 1, by omega, p1⟩
              · rw [mPut_o (by omega) (by decide) (by omega), ab_up_ne (by decide)]; exact n1.1 q hq
            · have n1' : ¬ t = 1 := fun y => c2 (by subst y; rw [Flives, if_pos rfl, z])
              show mPut t (ab_up n 3 0 (nI f)) 2 1 = n 2 1
              rw [mPut_o (by omega) (by decide) (by omega), ab_up_ne (by decide)]
  obtain ⟨f1, f2, f3, f4⟩ := fr
  have g : ∀ q j, (6 ≤ q ∨ (q = 0 ∧ j ≠ 6 ∧ j ≠ 7)) → (Fsend f t w (mDr k a b m)).2 q j = m q j := fun q j hq => (f1 q j hq).trans (mDr_q (by omega))
  exact ⟨⟨f3, s2, ⟨L, s3⟩, by rw [g 0 23 (by omega)]; exact a4⟩, h2.fr (Nat.le_refl _) (fun z => by rw [f4 (by rw [mDr_q (by decide)]; exact z), mDr_q (by decide)]) (fun j hj => g 0 j (by omega)), h3.fr (fun j => g 7 j (by omega)) (fun j => g 11 j (by omega)) (fun u _ => by rw [f2, mDr_q (by decide)]) (fun j _ _ => g 0 j (by omega)), h4.fr (fun q j _ _ => g q j (by omega)) (fun j _ _ => g 0 j (by omega))⟩
