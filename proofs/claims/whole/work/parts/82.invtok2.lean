/-! THE INVARIANT, III: sending and the one request -/
theorem iTk.any {L : Nat} {m : mD} (h : iTk 0 m) (h6 : ¬ L = 0 → m 0 35 = 1) (h7 : (L = 1 ∨ L = 2 ∨ L = 5) → m 0 23 = 1 ∧ m 0 34 = m 0 25) : iTk L m := by
  obtain ⟨a1, a2, a3, a4, a5, a6, a7, a8, a9, a10, a11⟩ := h
  exact ⟨fun M k hM e hk z => absurd (a1 M k hM e hk z).1 (by decide), a2, fun z => absurd (a3 z).1 (by decide), fun z => absurd (a4 z).1 (by decide), fun M k hM e hk z => absurd (a5 M k hM e hk z) (by decide), fun z => absurd (a6 z) (by decide), h6, h7, a9, a10, a11⟩
theorem iTk.put {L : Nat} {m : mD} {f t M : Nat} (h : iTk L m) (hm : m 2 t = nI M) (hM : M < 12) (c1 : t = 1 → tokQ (dq f m) → L = 1 ∧ (dq f m).2.1 = m 0 40 ∧ ∀ k, k < M → ¬ tokQ (mq m 1 k)) (c2 : t = 2 → (dq f m).2.1 = nI 22 → L = 4 ∧ ∀ k, k < M → ¬ (mq m 2 k).2.1 = nI 22 ∧ ¬ (mq m 2 k).2.1 = nI 42) (c3 : t = 2 → (dq f m).2.1 = nI 42 → m 0 34 < (dq f m).2.2.1 ∧ (dq f m).2.2.1 ≤ m 0 25 ∧ (∀ k, k < M → (mq m 2 k).2.1 = nI 42 → (mq m 2 k).2.2.1 < (dq f m).2.2.1) ∧ ¬ m 5 0 = nI 2) : iTk L (mPut t (ab_up m 3 0 (nI f))) := by
  obtain ⟨a1, a2, a3, a4, a5, a6, a7, a8, a9, a10, a11⟩ := h
  obtain ⟨p1, p2, p3⟩ := mq_put_t (f := f) hm hM
  have o0 : ∀ j, ¬ j = 7 → mPut t (ab_up m 3 0 (nI f)) 0 j = m 0 j := fun j hj => by rw [mPut_o (by omega) (by decide) (by omega), ab_up_ne (by decide)]
  have o5 : ∀ j, mPut t (ab_up m 3 0 (nI f)) 5 j = m 5 j := fun j => by rw [mPut_o (by omega) (by decide) (by omega), ab_up_ne (by decide)]
  have o4 : ∀ j, mPut t (ab_up m 3 0 (nI f)) 4 j = m 4 j := fun j => by rw [mPut_o (by omega) (by decide) (by omega), ab_up_ne (by decide)]
  have ix : ∀ p N j, N ≤ 12 → mPut t (ab_up m 3 0 (nI f)) 2 p = nI N → j < N → (p = t ∧ j = M ∧ N = M + 1 ∧ mq (mPut t (ab_up m 3 0 (nI f))) p j = dq f m) ∨ (∃ N', N' ≤ 12 ∧ m 2 p = nI N' ∧ j < N' ∧ (p = t → N' = M) ∧ mq (mPut t (ab_up m 3 0 (nI f))) p j = mq m p j) := fun p N j hN e hj => by
    by_cases c : p = t
    · subst c
      have eN : N = M + 1 := (nI_eq (by omega) (by omega)).mp (e.symm.trans p1)
      by_cases c2 : j = M
      · subst c2; exact Or.inl ⟨rfl, rfl, eN, p2⟩
      · exact Or.inr ⟨M, by omega, hm, by omega, fun _ => rfl, p3 j (by omega)⟩
    · obtain ⟨q1, q2⟩ := mq_put_o (f := f) (k := j) hm hM c (by omega)
      exact Or.inr ⟨N, hN, q1.symm.trans e, hj, fun z => absurd z c, q2⟩
  rw [iTk, o0 40 (by decide), o0 27 (by decide), o0 35 (by decide), o0 23 (by decide), o0 34 (by decide), o0 25 (by decide), o5, o5, o5, kq_fr o4, kq_fr o4]
  refine ⟨fun N j hN e hj z => ?_, fun N i j hN e hi hj => ?_, a3, a4, fun N j hN e hj z => ?_, a6, a7, a8, fun N i j hN e hi hj => ?_, fun N j hN e hj z => ?_, fun e ek => ?_⟩
  · rcases ix 1 N j hN e hj with ⟨b1, b2, b3, b4⟩ | ⟨N1, b1, b2, b3, -, b4⟩
    · rw [b4] at z ⊢
      obtain ⟨d1, d2, -⟩ := c1 b1.symm z
      exact ⟨d1, d2⟩
    · rw [b4] at z ⊢; exact a1 N1 j b1 b2 b3 z
  · rcases ix 1 N i hN e (by omega) with ⟨b1, b2, b3, b4⟩ | ⟨N1, b1, b2, b3, b5, b4⟩
    · omega
    · rcases ix 1 N j hN e hj with ⟨d1, d2, d3, d4⟩ | ⟨N2, d1, d2, d3, -, d4⟩
      · rw [b4, d4]
        intro z
        exact (c1 d1.symm z.2).2.2 i (by omega) z.1
      · rw [b4, d4]; exact a2 N2 i j d1 d2 hi d3
  · rcases ix 2 N j hN e hj with ⟨b1, b2, b3, b4⟩ | ⟨N1, b1, b2, b3, -, b4⟩
    · rw [b4] at z; exact (c2 b1.symm z).1
    · rw [b4] at z; exact a5 N1 j b1 b2 b3 z
  · rcases ix 2 N i hN e (by omega) with ⟨b1, b2, b3, b4⟩ | ⟨N1, b1, b2, b3, b5, b4⟩
    · omega
    · rcases ix 2 N j hN e hj with ⟨d1, d2, d3, d4⟩ | ⟨N2, d1, d2, d3, -, d4⟩
      · rw [b4, d4]
        exact ⟨fun z => ((c2 d1.symm z.2).2 i (by omega)).1 z.1, fun z => ((c2 d1.symm z.2).2 i (by omega)).2 z.1, fun z y => (c3 d1.symm y).2.2.1 i (by omega) z⟩
      · rw [b4, d4]; exact a9 N2 i j d1 d2 hi d3
  · rcases ix 2 N j hN e hj with ⟨b1, b2, b3, b4⟩ | ⟨N1, b1, b2, b3, -, b4⟩
    · rw [b4] at z ⊢
      obtain ⟨d1, d2, -⟩ := c3 b1.symm z
      exact ⟨d1, d2⟩
    · rw [b4] at z ⊢; exact a10 N1 j b1 b2 b3 z
  · obtain ⟨d1, d2, d3⟩ := a11 e ek
    refine ⟨d1, d2, fun N j hN e2 hj z => ?_⟩
    rcases ix 2 N j hN e2 hj with ⟨b1, b2, b3, b4⟩ | ⟨N1, b1, b2, b3, -, b4⟩
    · rw [b4] at z
      exact absurd e (c3 b1.symm z).2.2.2
    · rw [b4] at z ⊢; exact d3 N1 j b1 b2 b3 z
theorem iTk.keep {L : Nat} {m : mD} {f t : Nat} (h : iTk L m) (hf : f < 12) (ht : t < 12) (c2 : f = 2 → t = 1 → L = 3 ∧ (dq f m).2.1 = m 0 40) (c1 : f = 1 → t = 2 → L = 5) (c0 : f = 0 → t = 2 → (dq f m).2.1 = nI 42 → m 0 34 < (dq f m).2.2.1 ∧ (dq f m).2.2.1 ≤ m 0 25 ∧ ∀ M k, M ≤ 12 → m 2 2 = nI M → k < M → (mq m 2 k).2.1 = nI 42 → (mq m 2 k).2.2.1 < (dq f m).2.2.1) : iTk L (mKeep f t m) := by
  obtain ⟨a1, a2, a3, a4, a5, a6, a7, a8, a9, a10, a11⟩ := h
  have o0 : ∀ j, mKeep f t m 0 j = m 0 j := fun j => mKeep_o (by decide) (by omega)
  have o1 : ∀ j, mKeep f t m 1 j = m 1 j := fun j => mKeep_o (by decide) (by omega)
  have o2 : ∀ j, mKeep f t m 2 j = m 2 j := fun j => mKeep_o (by decide) (by omega)
  have o5 : mKeep f t m 5 f = nI t := by rw [mKeep, ab_up_eq]
  have o5' : ∀ p, ¬ p = f → mKeep f t m 5 p = m 5 p := fun p hp => mKeep_o (by decide) (by omega)
  have ks : kq (mKeep f t m) f = dq f m := by
    have q : ∀ i, i < 13 → mKeep f t m 4 (13 * f + i) = m 3 i := fun i hi => by rw [mKeep_4, fil_in (by omega) (by omega), Nat.add_sub_cancel_left]
    rw [kq, dq, q 1 (by decide), q 2 (by decide), q 3 (by decide)]
  have ko : ∀ p, ¬ p = f → kq (mKeep f t m) p = kq m p := fun p hp => by
    have q : ∀ i, i < 13 → mKeep f t m 4 (13 * p + i) = m 4 (13 * p + i) := fun i hi => by rw [mKeep_4, fil_out (by omega)]
    rw [kq, kq, q 1 (by decide), q 2 (by decide), q 3 (by decide)]
  have tt : ∀ s, s < 12 → mKeep f t m 5 f = nI s → t = s := fun s hs e => (nI_eq (by omega) (by omega)).mp (o5.symm.trans e)
  rw [iTk, o0, o0, o0, o0, o0, o0, o2, o2]
  simp only [mq_fr o1]
  refine ⟨a1, a2, a3, fun e => ?_, a5, fun e => ?_, a7, a8, a9, a10, fun e ek => ?_⟩
  · by_cases c : f = 2
    · subst c
      rw [ks]
      exact c2 rfl (tt 1 (by decide) e)
    · rw [ko 2 (fun z => c z.symm)]
      exact a4 ((o5' 2 (fun z => c z.symm)).symm.trans e)
  · by_cases c : f = 1
    · subst c
      exact c1 rfl (tt 2 (by decide) e)
    · exact a6 ((o5' 1 (fun z => c z.symm)).symm.trans e)
  · by_cases c : f = 0
    · subst c
      rw [ks] at ek ⊢
      exact c0 rfl (tt 2 (by decide) e) ek
    · rw [ko 0 (fun z => c z.symm)] at ek ⊢
      exact a11 ((o5' 0 (fun z => c z.symm)).symm.trans e) ek
theorem iTk.forb {L : Nat} {m : mD} (h : iTk L m) : iTk L (mForb m) := h.fr (fun i => mForb_o (by omega)) (fun i _ => mForb_o (by omega)) (fun i => mForb_o (by omega)) (fun i _ => mForb_o (by omega)) (fun j _ => mForb_o (by omega))
def neuQ (q : mQ) : Prop := ¬ q.2.1 = nI 20 ∧ ¬ q.2.1 = nI 21 ∧ ¬ q.2.1 = nI 22 ∧ ¬ q.2.1 = nI 42
/-- a message that is no request, none of its answer and no new life -/
theorem iTk.neu {L : Nat} {m : mD} {f t : Nat} (h : iTk L m) (hn : iMan m) (hf : f < 12) (ht : t < 12) (hd : m 0 23 = 0 ∨ m 0 23 = 1) (hq : neuQ (dq f m)) (h21 : ¬ (f = 2 ∧ t = 1)) (h12 : ¬ (f = 1 ∧ t = 2)) : iTk L (Fsends f t m) := by
  obtain ⟨q1, q2, q3, q4⟩ := hq
  obtain ⟨M, hM, hm⟩ := hn.1 t ht
  obtain ⟨-, c⟩ := Fsends_cases (f := f) (t := t) hf ht hm hM hd
  rcases c with ⟨-, c⟩ | ⟨-, -, c⟩ | ⟨-, -, -, -, c⟩ | ⟨-, -, -, hM2, c⟩
  · rw [c]; exact h.forb
  · rw [c]; exact h
  · rw [c]; exact h.keep hf ht (fun z y => absurd ⟨z, y⟩ h21) (fun z y => absurd ⟨z, y⟩ h12) (fun _ _ z => absurd z q4)
  · rw [c]; exact h.put hm hM2 (fun _ z => absurd z (fun y => y.elim q1 q2)) (fun _ z => absurd z q3) (fun _ z => absurd z q4)
theorem iTk.neu1 {L : Nat} {m : mD} {f t : Nat} {w : Int32} (h : iTk L m) (hn : iMan m) (hf : f < 12) (ht : t < 12) (hd : m 0 23 = 0 ∨ m 0 23 = 1) (hq : neuQ (dq f m)) : iTk L (Fsend f t w m).2 := by
  obtain ⟨q1, q2, q3, q4⟩ := hq
  obtain ⟨M, hM, hm⟩ := hn.1 t ht
  rw [(Fsend_eq (b := w) hf ht hm hM hd).1]
  by_cases c1 : FisAllowed (nI f) (nI t) = 0
  · rw [if_pos c1]; exact h.forb
  · rw [if_neg c1]
    by_cases c2 : Flives t m = 0
    · rw [if_pos c2]; exact h
    · rw [if_neg c2]
      by_cases c3 : ¬ w = 0 ∧ f = 2 ∧ t = 1 ∧ ¬ m 0 34 = m 0 25
      · rw [if_pos c3]; exact h
      · rw [if_neg c3]
        by_cases c4 : M = 12
        · rw [if_pos c4]; exact h
        · rw [if_neg c4]; exact h.put hm (by omega) (fun _ z => absurd z (fun y => y.elim q1 q2)) (fun _ z => absurd z q3) (fun _ z => absurd z q4)
theorem iTk.dr {L : Nat} {m : mD} {k a b : Int32} (h : iTk L m) : iTk L (mDr k a b m) := h.fr (fun _ => mDr_q (by decide)) (fun _ _ => mDr_q (by decide)) (fun _ => mDr_q (by decide)) (fun _ _ => mDr_q (by decide)) (fun _ _ => mDr_q (by decide))
theorem iTk.snd {L : Nat} {m : mD} {f t : Nat} {k a b : Int32} (h : iTk L m) (hn : iMan m) (hf : f < 12) (ht : t < 12) (hd : m 0 23 = 0 ∨ m 0 23 = 1) (hk : ¬ k = nI 20 ∧ ¬ k = nI 21 ∧ ¬ k = nI 22 ∧ ¬ k = nI 42) (h21 : ¬ (f = 2 ∧ t = 1)) (h12 : ¬ (f = 1 ∧ t = 2)) : iTk L (Fsends f t (Fdrafts k a b m)) := by
  rw [Fdrafts_eq]
  exact h.dr.neu hn.dr hf ht (by rw [mDr_q (by decide)]; exact hd) (by rw [dq_dr]; exact hk) h21 h12
/-- the request goes to the driver -/
theorem iTk.req {m : mD} (h : iTk 0 m) (hn : iMan m) (hd : m 0 23 = 0 ∨ m 0 23 = 1) (h35 : m 0 35 = 1) (hq : (dq 2 m).2.1 = m 0 40) : ∃ L, iTk L (Fsends 2 1 m) := by
  obtain ⟨M, hM, hm⟩ := hn.1 1 (by decide)
  obtain ⟨-, c⟩ := Fsends_cases (f := 2) (t := 1) (by decide) (by decide) hm hM hd
  rcases c with ⟨-, c⟩ | ⟨-, -, c⟩ | ⟨-, -, -, -, c⟩ | ⟨-, cl, ct, hM2, c⟩
  · exact ⟨0, by rw [c]; exact h.forb⟩
  · exact ⟨0, by rw [c]; exact h⟩
  · refine ⟨3, ?_⟩
    rw [c]
    exact (h.any (L := 3) (fun _ => h35) (fun z => by omega)).keep (by decide) (by decide) (fun _ _ => ⟨rfl, hq⟩) (fun z _ => absurd z (by decide)) (fun z _ => absurd z (by decide))
  · refine ⟨1, ?_⟩
    have al : m 0 23 = 1 := by
      rcases hd with z | z
      · exfalso
        apply cl
        rw [Flives, if_pos rfl, z]
      · exact z
    have tl : m 0 34 = m 0 25 := Classical.byContradiction (fun z => ct ⟨rfl, rfl, z⟩)
    rw [c]
    refine (h.any (L := 1) (fun _ => h35) (fun _ => ⟨al, tl⟩)).put hm hM2 (fun _ _ => ⟨rfl, hq, fun k hk z => ?_⟩) (fun z => absurd z (by decide)) (fun z => absurd z (by decide))
    exact absurd (h.1 M k (by omega) hm hk z).1 (by decide)
theorem lt_irr {a b : Int32} (h1 : a < b) (h2 : b ≤ a) : False := Int32.lt_irrefl (Int32.lt_of_lt_of_le h1 h2)
/-- the driver's answer goes to FILES -/
theorem iTk.ans {m : mD} (h : iTk 0 m) (hn : iMan m) (hd : m 0 23 = 1) (htl : m 0 34 = m 0 25) (h35 : m 0 35 = 1) (hq : ¬ (dq 1 m).2.1 = nI 42) : ∃ L, iTk L (Fsends 1 2 m) := by
  obtain ⟨M, hM, hm⟩ := hn.1 2 (by decide)
  obtain ⟨-, c⟩ := Fsends_cases (f := 1) (t := 2) (by decide) (by decide) hm hM (Or.inr hd)
  have no : ∀ k, k < M → ¬ (mq m 2 k).2.1 = nI 22 ∧ ¬ (mq m 2 k).2.1 = nI 42 := fun k hk => ⟨fun z => absurd (h.2.2.2.2.1 M k hM hm hk z) (by decide), fun z => by
    obtain ⟨d1, d2⟩ := h.2.2.2.2.2.2.2.2.2.1 M k hM hm hk z
    rw [htl] at d1
    exact lt_irr d1 d2⟩
  rcases c with ⟨-, c⟩ | ⟨-, -, c⟩ | ⟨-, -, -, -, c⟩ | ⟨-, -, -, hM2, c⟩
  · exact ⟨0, by rw [c]; exact h.forb⟩
  · exact ⟨0, by rw [c]; exact h⟩
  · refine ⟨5, ?_⟩
    rw [c]
    exact (h.any (L := 5) (fun _ => h35) (fun _ => ⟨hd, htl⟩)).keep (by decide) (by decide) (fun z _ => absurd z (by decide)) (fun _ _ => rfl) (fun z _ => absurd z (by decide))
  · refine ⟨4, ?_⟩
    rw [c]
    exact (h.any (L := 4) (fun _ => h35) (fun z => by omega)).put hm hM2 (fun z => absurd z (by decide)) (fun _ _ => ⟨rfl, no⟩) (fun _ z => absurd z hq)
/-- a new life is told to FILES -/
theorem iTk.tell {L : Nat} {m : mD} (h : iTk L m) (hn : iMan m) (hd : m 0 23 = 0 ∨ m 0 23 = 1) (h5 : m 5 0 = -1) (hq : (dq 0 m).2.1 = nI 42) (ha : m 0 34 < (dq 0 m).2.2.1 ∧ (dq 0 m).2.2.1 ≤ m 0 25) (hb : ∀ M k, M ≤ 12 → m 2 2 = nI M → k < M → (mq m 2 k).2.1 = nI 42 → (mq m 2 k).2.2.1 < (dq 0 m).2.2.1) : iTk L (Fsends 0 2 m) := by
  obtain ⟨M, hM, hm⟩ := hn.1 2 (by decide)
  obtain ⟨-, c⟩ := Fsends_cases (f := 0) (t := 2) (by decide) (by decide) hm hM hd
  rcases c with ⟨-, c⟩ | ⟨-, -, c⟩ | ⟨-, -, -, -, c⟩ | ⟨-, -, -, hM2, c⟩
  · rw [c]; exact h.forb
  · rw [c]; exact h
  · rw [c]; exact h.keep (by decide) (by decide) (fun z _ => absurd z (by decide)) (fun z _ => absurd z (by decide)) (fun _ _ _ => ⟨ha.1, ha.2, hb⟩)
  · rw [c]; exact h.put hm hM2 (fun z => absurd z (by decide)) (fun _ z => by rw [hq] at z; exact absurd z (by decide)) (fun _ _ => ⟨ha.1, ha.2, fun k hk z => hb M k hM hm hk z, by rw [h5]; exact fun z => nI_ne_m1 2 (by decide) z.symm⟩)
