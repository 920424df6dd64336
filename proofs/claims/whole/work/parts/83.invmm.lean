/-! THE INVARIANT, IV: all that messages want -/
theorem Fsends_fr {m : mD} {f t : Nat} (hn : iMan m) (hf : f < 12) (ht : t < 12) (hd : m 0 23 = 0 ∨ m 0 23 = 1) : FrM m (Fsends f t m) ∧ (∀ p, ¬ p = f → (Fsends f t m) 5 p = m 5 p) ∧ iMan (Fsends f t m) ∧ (∀ p, p < 12 → (Fsends f t m) 2 p = m 2 p ∨ p = t) := by
  obtain ⟨M, hM, hm⟩ := hn.1 t ht
  obtain ⟨-, c⟩ := Fsends_cases (f := f) (t := t) hf ht hm hM hd
  rcases c with ⟨-, c⟩ | ⟨-, -, c⟩ | ⟨-, -, -, -, c⟩ | ⟨-, -, -, hM2, c⟩
  · rw [c]
    exact ⟨fun a j ha => mForb_o (by omega), fun p _ => mForb_o (by omega), ⟨fun q hq => by rw [mForb_o (by omega)]; exact hn.1 q hq, fun q hq => by rw [mForb_o (by omega)]; exact hn.2 q hq⟩, fun p _ => Or.inl (mForb_o (by omega))⟩
  · rw [c]
    exact ⟨fun _ _ _ => rfl, fun _ _ => rfl, hn, fun _ _ => Or.inl rfl⟩
  · rw [c]
    refine ⟨fun a j ha => mKeep_o (by omega) (by omega), fun p hp => mKeep_o (by decide) (by omega), ⟨fun q hq => by rw [mKeep_o (by decide) (by omega)]; exact hn.1 q hq, fun q hq => ?_⟩, fun p _ => Or.inl (mKeep_o (by decide) (by omega))⟩
    by_cases e : q = f
    · subst e; rw [mKeep, ab_up_eq]; exact Or.inr ⟨t, ht, rfl⟩
    · rw [mKeep_o (by decide) (by omega)]; exact hn.2 q hq
  · rw [c]
    obtain ⟨p1, -, -⟩ := mq_put_t (f := f) hm hM2
    have o5 : ∀ p, mPut t (ab_up m 3 0 (nI f)) 5 p = m 5 p := fun p => by rw [mPut_o (by omega) (by decide) (by omega), ab_up_ne (by decide)]
    refine ⟨fun a j ha => by rw [mPut_o (by omega) (by omega) (by omega), ab_up_ne (by omega)], fun p _ => o5 p, ⟨fun q hq => ?_, fun q hq => by rw [o5]; exact hn.2 q hq⟩, fun p _ => ?_⟩
    · by_cases e : q = t
      · subst e; exact ⟨M + 1, by omega, p1⟩
      · rw [mPut_o (by omega) (by decide) (by omega), ab_up_ne (by decide)]; exact hn.1 q hq
    · by_cases e : p = t
      · exact Or.inr e
      · exact Or.inl (by rw [mPut_o (by omega) (by decide) (by omega), ab_up_ne (by decide)])
/-- messages: ranges, senders, the one request -/
def iMM (m : mD) : Prop := iMan m ∧ iMs m ∧ (∃ L, iTk L m) ∧ (m 0 23 = 0 ∨ m 0 23 = 1)
theorem iMan.fr {m m' : mD} (h : iMan m) (h2 : ∀ i, i < 12 → m' 2 i = m 2 i) (h5 : ∀ i, i < 12 → m' 5 i = m 5 i) : iMan m' := ⟨fun t ht => by rw [h2 t ht]; exact h.1 t ht, fun p hp => by rw [h5 p hp]; exact h.2 p hp⟩
theorem iMan.clr {m m' : mD} (h : iMan m) (h2 : ∀ i, i < 12 → m' 2 i = m 2 i ∨ m' 2 i = nI 0) (h5 : ∀ i, i < 12 → m' 5 i = m 5 i ∨ m' 5 i = -1) : iMan m' := by
  refine ⟨fun t ht => ?_, fun p hp => ?_⟩
  · rcases h2 t ht with z | z
    · rw [z]; exact h.1 t ht
    · exact ⟨0, by decide, z⟩
  · rcases h5 p hp with z | z
    · rw [z]; exact h.2 p hp
    · exact Or.inl z
theorem iMan.drop {m : mD} {t k M : Nat} (h : iMan m) (hm : m 2 t = nI M) (hM : M ≤ 12) : iMan (mDrop t k m) := by
  refine ⟨fun q hq => ?_, fun q hq => by rw [mDrop_o (by decide) (by omega)]; exact h.2 q hq⟩
  by_cases e : q = t
  · subst e; exact ⟨M - 1, by omega, mDrop_2 hm hM⟩
  · rw [mDrop_o (by decide) (by omega)]; exact h.1 q hq
/-- fields that messages don't look at -/
theorem iMM.fr {m m' : mD} (h : iMM m) (h1 : ∀ i, m' 1 i = m 1 i) (h2 : ∀ i, i < 12 → m' 2 i = m 2 i) (h4 : ∀ i, m' 4 i = m 4 i) (h5 : ∀ i, i < 12 → m' 5 i = m 5 i) (h0 : ∀ j, j = 23 ∨ j = 25 ∨ j = 27 ∨ j = 34 ∨ j = 35 ∨ j = 40 → m' 0 j = m 0 j) : iMM m' := by
  obtain ⟨a1, a2, ⟨L, a3⟩, a4⟩ := h
  exact ⟨a1.fr h2 h5, a2.fr h1 h2 h4 h5, ⟨L, a3.fr h1 (fun i hi => h2 i (by omega)) h4 (fun i hi => h5 i (by omega)) h0⟩, by rw [h0 23 (by omega)]; exact a4⟩
theorem iMM.drop {m : mD} {t k M : Nat} (h : iMM m) (ht : t < 12) (hm : m 2 t = nI M) (hM : M ≤ 12) (hk : k < M) : iMM (mDrop t k m) := by
  obtain ⟨a1, a2, ⟨L, a3⟩, a4⟩ := h
  exact ⟨a1.drop hm hM, a2.drop hm hM hk, ⟨L, a3.drop ht hm hM hk⟩, by rw [mDrop_o (by decide) (by omega)]; exact a4⟩
theorem iMM.take {m : mD} {t k M : Nat} (h : iMM m) (ht : t < 12) (hm : m 2 t = nI M) (hM : M ≤ 12) (hk : k < M) : iMM (mTake t k m) := by
  rw [mTake]
  exact (h.fr (m' := fil m 6 0 13 (fun i => m 1 (13 * (12 * t + k) + i))) (fun i => fil_q (by decide)) (fun i _ => fil_q (by decide)) (fun i => fil_q (by decide)) (fun i _ => fil_q (by decide)) (fun j _ => fil_q (by decide))).drop ht (by rw [fil_q (by decide)]; exact hm) hM hk
theorem FrM.trans {a b c : mD} (h1 : FrM a b) (h2 : FrM b c) : FrM a c := fun q j hq => (h2 q j hq).trans (h1 q j hq)
theorem FrM.dr {m : mD} {k a b : Int32} : FrM m (mDr k a b m) := fun q j hq => mDr_q (by omega)
/-- a neutral message sent -/
theorem iMM.snd {m : mD} {f t : Nat} {k a b : Int32} (h : iMM m) (hf : f < 12) (ht : t < 12) (hq : okS f t (nI f, k, a, b)) (hk : ¬ k = nI 20 ∧ ¬ k = nI 21 ∧ ¬ k = nI 22 ∧ ¬ k = nI 42) (h21 : ¬ (f = 2 ∧ t = 1)) (h12 : ¬ (f = 1 ∧ t = 2)) : iMM (Fsends f t (Fdrafts k a b m)) ∧ FrM m (Fsends f t (Fdrafts k a b m)) ∧ (∀ p, ¬ p = f → (Fsends f t (Fdrafts k a b m)) 5 p = m 5 p) := by
  obtain ⟨a1, a2, ⟨L, a3⟩, a4⟩ := h
  have hd : mDr k a b m 0 23 = 0 ∨ mDr k a b m 0 23 = 1 := by rw [mDr_q (by decide)]; exact a4
  have F := Fsends_fr (f := f) (t := t) a1.dr hf ht hd
  have s2 := a2.snd a1 hf ht a4 hq
  have s3 := a3.snd (a := a) (b := b) a1 hf ht a4 hk h21 h12
  rw [Fdrafts_eq] at s2 s3 ⊢
  refine ⟨⟨F.2.2.1, s2, ⟨L, s3⟩, ?_⟩, FrM.dr.trans F.1, fun p hp => (F.2.1 p hp).trans (mDr_q (by decide))⟩
  rw [F.1 0 23 (by omega)]; exact hd
theorem iMM.tells {m : mD} {f u : Nat} {v : Int32} (h : iMM m) (hf : f = 2 ∨ f = 3) (hu : u < 12) (hu4 : 4 ≤ u) : iMM (Ftells f u v m) ∧ FrM m (Ftells f u v m) ∧ (∀ p, ¬ p = f → (Ftells f u v m) 5 p = m 5 p) := by
  have e : Ftells f u v m = Fsends f u (Fdrafts (nI 50) v (nI 0) m) := rfl
  rw [e]
  rcases hf with z | z
  · subst z
    exact h.snd (by decide) hu (Or.inr (Or.inr (Or.inr (Or.inl ⟨rfl, Or.inr (Or.inr ⟨hu4, rfl⟩)⟩)))) (by decide) (by omega) (by omega)
  · subst z
    exact h.snd (by decide) hu (Or.inr (Or.inr (Or.inr (Or.inr (Or.inl ⟨rfl, Or.inr ⟨hu4, rfl⟩⟩))))) (by decide) (by omega) (by omega)
theorem kind_of {f t : Nat} {q : mQ} (h : okS f t q) : (q.2.1 = nI 22 → f = 1 ∧ t = 2) ∧ (q.2.1 = nI 20 ∨ q.2.1 = nI 21 → f = 2 ∧ t = 1) ∧ (q.2.1 = nI 42 → f = 0 ∧ t = 2) := by
  have K : ∀ c : Int32, q.2.1 = c → (¬ c = 0 ∧ ¬ c = nI 40 ∧ ¬ c = nI 41 ∧ ¬ c = nI 32 ∧ ¬ c = nI 50 ∧ ¬ c = nI 30 ∧ ¬ c = nI 31 ∧ ¬ c = nI 1 ∧ ¬ c = nI 2 ∧ ¬ c = nI 3 ∧ ¬ c = nI 4 ∧ ¬ c = nI 5 ∧ ¬ c = nI 6 ∧ ¬ c = nI 7 ∧ ¬ c = nI 8 ∧ ¬ c = nI 9 ∧ ¬ c = nI 10 ∧ ¬ c = nI 11 ∧ ¬ c = nI 12) → ((f = 0 ∧ t = 2 ∧ c = nI 42) ∨ (f = 1 ∧ t = 2 ∧ c = nI 22) ∨ (f = 2 ∧ t = 1 ∧ (c = nI 20 ∨ c = nI 21))) := fun c e hc => by
    obtain ⟨c0, c40, c41, c32, c50, c30, c31, c1, c2, c3, c4, c5, c6, c7, c8, c9, c10, c11, c12⟩ := hc
    rw [okS, e] at h
    rcases h with h | ⟨rfl, h⟩ | ⟨rfl, h⟩ | ⟨rfl, h⟩ | ⟨rfl, h⟩ | ⟨-, h⟩
    · exact absurd h c0
    · rcases h with h | h
      · exact absurd h.2 c40
      · exact Or.inl ⟨rfl, h.1, h.2.1⟩
    · rcases h with h | h
      · exact absurd h.2 c41
      · exact Or.inr (Or.inl ⟨rfl, h.1, h.2⟩)
    · rcases h with h | h | h
      · exact Or.inr (Or.inr ⟨rfl, h.1, h.2.1⟩)
      · exact absurd h.2 c32
      · exact absurd h.2 c50
    · rcases h with h | h
      · rcases h.2 with h | h
        · exact absurd h.1 c30
        · exact absurd h.1 c31
      · exact absurd h.2 c50
    · rcases h with h | h
      · rcases h.2 with h | h | h | h | h | h | h
        · exact absurd h c1
        · exact absurd h c2
        · exact absurd h c3
        · exact absurd h c4
        · exact absurd h c5
        · exact absurd h c6
        · exact absurd h c7
      · rcases h.2 with h | h | h | h | h
        · exact absurd h c8
        · exact absurd h c9
        · exact absurd h c10
        · exact absurd h c11
        · exact absurd h c12
  refine ⟨fun z => ?_, fun z => ?_, fun z => ?_⟩
  · rcases K _ z (by decide) with y | y | y
    · exact absurd y.2.2 (by decide)
    · exact ⟨y.1, y.2.1⟩
    · exact absurd y.2.2 (by decide)
  · rcases z with z | z
    · rcases K _ z (by decide) with y | y | y
      · exact absurd y.2.2 (by decide)
      · exact absurd y.2.2 (by decide)
      · exact ⟨y.1, y.2.1⟩
    · rcases K _ z (by decide) with y | y | y
      · exact absurd y.2.2 (by decide)
      · exact absurd y.2.2 (by decide)
      · exact ⟨y.1, y.2.1⟩
  · rcases K _ z (by decide) with y | y | y
    · exact ⟨y.1, y.2.1⟩
    · exact absurd y.2.2 (by decide)
    · exact absurd y.2.2 (by decide)
/-- what was FULL is sent again -/
theorem iMM.again {p : Nat} {m : mD} (h : iMM m) (hp : p < 12) : iMM (FsendsAgain p m).2 ∧ FrM m (FsendsAgain p m).2 ∧ (∀ q, ¬ q = p → (FsendsAgain p m).2 5 q = m 5 q) ∧ ((FsendsAgain p m).1 = 0 → (FsendsAgain p m).2 = m ∧ m 5 p = -1) := by
  obtain ⟨a1, a2, ⟨L, a3⟩, a4⟩ := h
  rcases a1.2 p hp with z | ⟨t, ht, z⟩
  · rw [FsendsAgain_no z]
    exact ⟨⟨a1, a2, ⟨L, a3⟩, a4⟩, fun _ _ _ => rfl, fun _ _ => rfl, fun _ => ⟨rfl, z⟩⟩
  · have s2 := a2.again a1 hp a4
    rw [FsendsAgain_yes hp ht z a1 a4] at s2 ⊢
    have hd : mAg p m 0 23 = 0 ∨ mAg p m 0 23 = 1 := by rw [mAg_o (by decide) (by omega)]; exact a4
    have F := Fsends_fr (f := p) (t := t) a1.ag hp ht hd
    have FA : FrM m (mAg p m) := fun q j hq => mAg_o (by omega) (by omega)
    have hk := a2.2 p t hp ht z
    obtain ⟨k22, k20, k42⟩ := kind_of hk
    have TA : iTk L (mAg p m) := a3.clr (fun i => mAg_o (by decide) (by omega)) (fun i _ => Or.inl (mAg_o (by decide) (by omega))) (fun i => mAg_o (by decide) (by omega)) (fun i _ => by
      by_cases e : i = p
      · subst e; rw [mAg, ab_up_eq]; exact Or.inr rfl
      · exact Or.inl (mAg_o (by decide) (by omega))) (Or.inl (mAg_o (by decide) (by omega))) (fun j _ => mAg_o (by decide) (by omega))
    have g5 : mAg p m 5 p = -1 := by rw [mAg, ab_up_eq]
    have g0 : ∀ j, mAg p m 0 j = m 0 j := fun j => mAg_o (by decide) (by omega)
    have nm : ∀ c, c < 12 → ¬ (-1 : Int32) = nI c := fun c hc e => nI_ne_m1 c (by omega) e.symm
    have tk : ∃ L', iTk L' (Fsends p t (mAg p m)) := by
      by_cases c12 : p = 1 ∧ t = 2
      · obtain ⟨rfl, rfl⟩ := c12
        have eL := a3.2.2.2.2.2.1 z
        subst eL
        have e35 := a3.2.2.2.2.2.2.1 (by decide)
        obtain ⟨e23, e34⟩ := a3.2.2.2.2.2.2.2.1 (by omega)
        have T0 : iTk 0 (mAg 1 m) := TA.zero (fun y => absurd y (by decide)) (fun y => absurd y (by decide)) (fun y => absurd y (by decide)) (fun y => absurd y (by decide)) (fun _ => by rw [g5]; exact nm 2 (by decide))
        exact T0.ans a1.ag (by rw [g0]; exact e23) (by rw [g0, g0]; exact e34) (by rw [g0]; exact e35) (by rw [dq_ag]; exact fun y => absurd (k42 y).1 (by decide))
      · by_cases c21 : p = 2 ∧ t = 1
        · obtain ⟨rfl, rfl⟩ := c21
          obtain ⟨eL, ek⟩ := a3.2.2.2.1 z
          subst eL
          have e35 := a3.2.2.2.2.2.2.1 (by decide)
          have T0 : iTk 0 (mAg 2 m) := TA.zero (fun y => absurd y (by decide)) (fun y => absurd y (by decide)) (fun _ => by rw [g5]; exact nm 1 (by decide)) (fun y => absurd y (by decide)) (fun y => absurd y (by decide))
          exact T0.req a1.ag hd (by rw [g0]; exact e35) (by rw [dq_ag, g0]; exact ek)
        · by_cases c42 : (kq m p).2.1 = nI 42
          · obtain ⟨rfl, rfl⟩ := k42 c42
            obtain ⟨b1, b2, b3⟩ := a3.2.2.2.2.2.2.2.2.2.2 z c42
            have e1 : ∀ i, mAg 0 m 1 i = m 1 i := fun i => mAg_o (by decide) (by omega)
            have e2 : mAg 0 m 2 2 = m 2 2 := mAg_o (by decide) (by omega)
            refine ⟨L, TA.tell a1.ag hd g5 (by rw [dq_ag]; exact c42) (by rw [dq_ag, g0, g0]; exact ⟨b1, b2⟩) (fun M k hM e hk' y => ?_)⟩
            rw [mq_fr e1] at y ⊢
            rw [dq_ag]
            exact b3 M k hM (e2.symm.trans e) hk' y
          · refine ⟨L, TA.neu a1.ag hp ht hd ?_ c21 c12⟩
            rw [dq_ag]
            exact ⟨fun y => c21 (k20 (Or.inl y)), fun y => c21 (k20 (Or.inr y)), fun y => c12 (k22 y), c42⟩
    have h23 : Fsends p t (mAg p m) 0 23 = 0 ∨ Fsends p t (mAg p m) 0 23 = 1 := by rw [F.1 0 23 (by omega)]; exact hd
    refine ⟨⟨F.2.2.1, s2, tk, h23⟩, FA.trans F.1, fun q hq => (F.2.1 q hq).trans (mAg_o (by decide) (by omega)), fun y => absurd y nI10⟩
