/-! THE INVARIANT, I: messages by their senders -/
abbrev mQ : Type := Int32 × Int32 × Int32 × Int32
def mq (m : mD) (t k : Nat) : mQ := (m 1 (13 * (12 * t + k) + 0), m 1 (13 * (12 * t + k) + 1), m 1 (13 * (12 * t + k) + 2), m 1 (13 * (12 * t + k) + 3))
def dq (f : Nat) (m : mD) : mQ := (nI f, m 3 1, m 3 2, m 3 3)
def kq (m : mD) (p : Nat) : mQ := (nI p, m 4 (13 * p + 1), m 4 (13 * p + 2), m 4 (13 * p + 3))
theorem mq_put_t {m : mD} {t M f : Nat} (hm : m 2 t = nI M) (hM : M < 12) : (mPut t (ab_up m 3 0 (nI f))) 2 t = nI (M + 1) ∧ mq (mPut t (ab_up m 3 0 (nI f))) t M = dq f m ∧ ∀ k, k < M → mq (mPut t (ab_up m 3 0 (nI f))) t k = mq m t k := by
  have e2 : ab_up m 3 0 (nI f) 2 t = nI M := by rw [ab_up_ne (by decide)]; exact hm
  have hc : (ab_up m 3 0 (nI f) 2 t).toNatClampNeg = M := by rw [e2]; exact nI_clamp (by omega)
  refine ⟨by rw [mPut, ab_up_ne (by decide), ab_up_eq, hc], ?_, fun k hk => ?_⟩
  · have q : ∀ i, i < 13 → mPut t (ab_up m 3 0 (nI f)) 1 (13 * (12 * t + M) + i) = ab_up m 3 0 (nI f) 3 i := fun i hi => by rw [mPut_1, hc, fil_in (by omega) (by omega), Nat.add_sub_cancel_left]
    rw [mq, q 0 (by decide), q 1 (by decide), q 2 (by decide), q 3 (by decide), ab_up_eq, ab_up_nj (by decide), ab_up_nj (by decide), ab_up_nj (by decide)]
    rfl
  · have q : ∀ i, i < 13 → mPut t (ab_up m 3 0 (nI f)) 1 (13 * (12 * t + k) + i) = m 1 (13 * (12 * t + k) + i) := fun i hi => by rw [mPut_1, hc, fil_out (by omega), ab_up_ne (by decide)]
    rw [mq, q 0 (by decide), q 1 (by decide), q 2 (by decide), q 3 (by decide)]
    rfl
theorem mq_put_o {m : mD} {t M f p k : Nat} (hm : m 2 t = nI M) (hM : M < 12) (hp : ¬ p = t) (hk : k < 12) : (mPut t (ab_up m 3 0 (nI f))) 2 p = m 2 p ∧ mq (mPut t (ab_up m 3 0 (nI f))) p k = mq m p k := by
  have e2 : ab_up m 3 0 (nI f) 2 t = nI M := by rw [ab_up_ne (by decide)]; exact hm
  have hc : (ab_up m 3 0 (nI f) 2 t).toNatClampNeg = M := by rw [e2]; exact nI_clamp (by omega)
  refine ⟨by rw [mPut_o (by omega) (by decide) (by omega), ab_up_ne (by decide)], ?_⟩
  have q : ∀ i, i < 13 → mPut t (ab_up m 3 0 (nI f)) 1 (13 * (12 * p + k) + i) = m 1 (13 * (12 * p + k) + i) := fun i hi => by rw [mPut_1, hc, fil_out (by omega), ab_up_ne (by decide)]
  rw [mq, q 0 (by decide), q 1 (by decide), q 2 (by decide), q 3 (by decide)]
  rfl
theorem mq_drop_t {m : mD} {t M k j : Nat} (hm : m 2 t = nI M) (hM : M ≤ 12) (hk : k < M) (hj : j < M - 1) : mq (mDrop t k m) t j = (if j < k then mq m t j else mq m t (j + 1)) := by
  have hc : (m 2 t).toNatClampNeg = M := by rw [hm]; exact nI_clamp (by omega)
  by_cases c : j < k
  · have q : ∀ i, i < 13 → mDrop t k m 1 (13 * (12 * t + j) + i) = m 1 (13 * (12 * t + j) + i) := fun i hi => by rw [mDrop, ab_up_ne (by decide), fil_out (by omega)]
    rw [if_pos c, mq, q 0 (by decide), q 1 (by decide), q 2 (by decide), q 3 (by decide)]
    rfl
  · have q : ∀ i, i < 13 → mDrop t k m 1 (13 * (12 * t + j) + i) = m 1 (13 * (12 * t + (j + 1)) + i) := fun i hi => by
      rw [mDrop, ab_up_ne (by decide), hc, fil_in (by omega) (by omega), show 13 * (12 * t + k) + (13 * (12 * t + j) + i - 13 * (12 * t + k)) + 13 = 13 * (12 * t + (j + 1)) + i by omega]
    rw [if_neg c, mq, q 0 (by decide), q 1 (by decide), q 2 (by decide), q 3 (by decide)]
    rfl
theorem mq_drop_o {m : mD} {t M k p j : Nat} (hm : m 2 t = nI M) (hM : M ≤ 12) (hk : k < M) (hp : ¬ p = t) (hj : j < 12) : mq (mDrop t k m) p j = mq m p j := by
  have hc : (m 2 t).toNatClampNeg = M := by rw [hm]; exact nI_clamp (by omega)
  have q : ∀ i, i < 13 → mDrop t k m 1 (13 * (12 * p + j) + i) = m 1 (13 * (12 * p + j) + i) := fun i hi => by rw [mDrop, ab_up_ne (by decide), hc, fil_out (by omega)]
  rw [mq, q 0 (by decide), q 1 (by decide), q 2 (by decide), q 3 (by decide)]
  rfl
theorem mq_fr {m m' : mD} {t k : Nat} (h : ∀ i, m' 1 i = m 1 i) : mq m' t k = mq m t k := by rw [mq, mq, h, h, h, h]
def okS (f t : Nat) (q : mQ) : Prop := q.2.1 = 0 ∨
  (f = 0 ∧ ((t = 1 ∧ q.2.1 = nI 40) ∨ (t = 2 ∧ q.2.1 = nI 42 ∧ ¬ q.2.2.1 = 0))) ∨
  (f = 1 ∧ ((t = 0 ∧ q.2.1 = nI 41) ∨ (t = 2 ∧ q.2.1 = nI 22))) ∨
  (f = 2 ∧ ((t = 1 ∧ (q.2.1 = nI 20 ∨ q.2.1 = nI 21) ∧ ∃ B, B < 24 ∧ q.2.2.1 = nI B) ∨ (t = 3 ∧ q.2.1 = nI 32) ∨ (4 ≤ t ∧ q.2.1 = nI 50))) ∨
  (f = 3 ∧ ((t = 2 ∧ ((q.2.1 = nI 30 ∧ ∃ a b, a < 8 ∧ b < 8 ∧ q.2.2.1 = nI (a + 4) ∧ q.2.2.2 = nI (b + 4)) ∨ (q.2.1 = nI 31 ∧ ∃ a, a < 8 ∧ q.2.2.1 = nI (a + 4)))) ∨ (4 ≤ t ∧ q.2.1 = nI 50))) ∨
  (4 ≤ f ∧ ((t = 2 ∧ (q.2.1 = nI 1 ∨ q.2.1 = nI 2 ∨ q.2.1 = nI 3 ∨ q.2.1 = nI 4 ∨ q.2.1 = nI 5 ∨ q.2.1 = nI 6 ∨ q.2.1 = nI 7)) ∨ (t = 3 ∧ (q.2.1 = nI 8 ∨ q.2.1 = nI 9 ∨ q.2.1 = nI 10 ∨ q.2.1 = nI 11 ∨ q.2.1 = nI 12))))
def okB (t : Nat) (q : mQ) : Prop := ∃ f, f < 12 ∧ q.1 = nI f ∧ okS f t q
def iMs (m : mD) : Prop := (∀ t M k, t < 12 → M ≤ 12 → m 2 t = nI M → k < M → okB t (mq m t k)) ∧ (∀ p t, p < 12 → t < 12 → m 5 p = nI t → okS p t (kq m p))
def iMan (m : mD) : Prop := (∀ t, t < 12 → ∃ M, M ≤ 12 ∧ m 2 t = nI M) ∧ ∀ p, p < 12 → m 5 p = -1 ∨ ∃ t, t < 12 ∧ m 5 p = nI t
theorem R3.man {x : xD} {m : mD} (h : R3 x m) : iMan m := by
  refine ⟨fun t ht => ?_, fun p hp => ?_⟩
  · obtain ⟨M, hM, e, -⟩ := h.1.2.1 t ht
    exact ⟨M, hM, e⟩
  · rcases (h.2.1 p hp).2 with z | ⟨t, ht, e, -⟩
    · exact Or.inl z
    · exact Or.inr ⟨t, ht, e⟩
theorem iMs.fr {m m' : mD} (h : iMs m) (h1 : ∀ i, m' 1 i = m 1 i) (h2 : ∀ i, i < 12 → m' 2 i = m 2 i) (h4 : ∀ i, m' 4 i = m 4 i) (h5 : ∀ i, i < 12 → m' 5 i = m 5 i) : iMs m' := by
  refine ⟨fun t M k ht hM hm hk => ?_, fun p t hp ht e => ?_⟩
  · rw [mq_fr h1]; exact h.1 t M k ht hM ((h2 t ht).symm.trans hm) hk
  · have ek : kq m' p = kq m p := by rw [kq, kq, h4, h4, h4]
    rw [ek]; exact h.2 p t hp ht ((h5 p hp).symm.trans e)
theorem iMs.put {m : mD} {f t M : Nat} (h : iMs m) (hf : f < 12) (ht : t < 12) (hm : m 2 t = nI M) (hM : M < 12) (hq : okS f t (dq f m)) : iMs (mPut t (ab_up m 3 0 (nI f))) := by
  obtain ⟨p1, p2, p3⟩ := mq_put_t (f := f) hm hM
  refine ⟨fun t2 M2 k ht2 hM2 hm2 hk => ?_, fun p t2 hp ht2 e => ?_⟩
  · by_cases e : t2 = t
    · subst e
      have eM : M2 = M + 1 := (nI_eq (by omega) (by omega)).mp (hm2.symm.trans p1)
      subst eM
      by_cases c : k = M
      · subst c; rw [p2]; exact ⟨f, hf, rfl, hq⟩
      · rw [p3 k (by omega)]; exact h.1 t2 M k ht2 (by omega) hm (by omega)
    · obtain ⟨o1, o2⟩ := mq_put_o (f := f) (k := k) hm hM e (by omega)
      rw [o2]; exact h.1 t2 M2 k ht2 hM2 (o1.symm.trans hm2) hk
  · have o : ∀ i, mPut t (ab_up m 3 0 (nI f)) 4 i = m 4 i := fun i => by rw [mPut_o (by omega) (by decide) (by omega), ab_up_ne (by decide)]
    have o5 : mPut t (ab_up m 3 0 (nI f)) 5 p = m 5 p := by rw [mPut_o (by omega) (by decide) (by omega), ab_up_ne (by decide)]
    have ek : kq (mPut t (ab_up m 3 0 (nI f))) p = kq m p := by rw [kq, kq, o, o, o]
    rw [ek]; exact h.2 p t2 hp ht2 (o5.symm.trans e)
theorem iMs.keep {m : mD} {f t : Nat} (h : iMs m) (hf : f < 12) (ht : t < 12) (hq : okS f t (dq f m)) : iMs (mKeep f t m) := by
  refine ⟨fun t2 M k ht2 hM hm hk => ?_, fun p t2 hp ht2 e => ?_⟩
  · rw [mq_fr (fun i => mKeep_o (by decide) (by omega))]
    exact h.1 t2 M k ht2 hM ((mKeep_o (by decide) (by omega)).symm.trans hm) hk
  · by_cases c : p = f
    · subst c
      have e5 : mKeep p t m 5 p = nI t := by rw [mKeep, ab_up_eq]
      have et : t2 = t := (nI_eq (by omega) (by omega)).mp (e.symm.trans e5)
      subst et
      have q : ∀ i, i < 13 → mKeep p t2 m 4 (13 * p + i) = m 3 i := fun i hi => by rw [mKeep_4, fil_in (by omega) (by omega), Nat.add_sub_cancel_left]
      have ek : kq (mKeep p t2 m) p = dq p m := by rw [kq, dq, q 1 (by decide), q 2 (by decide), q 3 (by decide)]
      rw [ek]; exact hq
    · have q : ∀ i, i < 13 → mKeep f t m 4 (13 * p + i) = m 4 (13 * p + i) := fun i hi => by rw [mKeep_4, fil_out (by omega)]
      have ek : kq (mKeep f t m) p = kq m p := by rw [kq, kq, q 1 (by decide), q 2 (by decide), q 3 (by decide)]
      rw [ek]; exact h.2 p t2 hp ht2 ((mKeep_o (by decide) (by omega)).symm.trans e)
theorem mForb_o {m : mD} {a j : Nat} (h : ¬ (a = 0 ∧ j = 6)) : mForb m a j = m a j := ab_up_na h
theorem iMs.sends {m : mD} {f t : Nat} (h : iMs m) (hn : iMan m) (hf : f < 12) (ht : t < 12) (hd : m 0 23 = 0 ∨ m 0 23 = 1) (hq : okS f t (dq f m)) : iMs (Fsends f t m) := by
  obtain ⟨M, hM, hm⟩ := hn.1 t ht
  obtain ⟨-, c⟩ := Fsends_cases (f := f) (t := t) hf ht hm hM hd
  rcases c with ⟨-, c⟩ | ⟨-, -, c⟩ | ⟨-, -, -, -, c⟩ | ⟨-, -, -, hM2, c⟩
  · rw [c]; exact h.fr (fun i => mForb_o (by omega)) (fun i _ => mForb_o (by omega)) (fun i => mForb_o (by omega)) (fun i _ => mForb_o (by omega))
  · rw [c]; exact h
  · rw [c]; exact h.keep hf ht hq
  · rw [c]; exact h.put hf ht hm hM2 hq
theorem iMs.dr {m : mD} {k a b : Int32} (h : iMs m) : iMs (mDr k a b m) := h.fr (fun _ => mDr_q (by decide)) (fun _ _ => mDr_q (by decide)) (fun _ => mDr_q (by decide)) (fun _ _ => mDr_q (by decide))
theorem iMan.dr {m : mD} {k a b : Int32} (h : iMan m) : iMan (mDr k a b m) := ⟨fun t ht => by rw [mDr_q (by decide)]; exact h.1 t ht, fun p hp => by rw [mDr_q (by decide)]; exact h.2 p hp⟩
theorem dq_dr {f : Nat} {k a b : Int32} {m : mD} : dq f (mDr k a b m) = (nI f, k, a, b) := by
  rw [dq, mDr_3 (by decide), mDr_3 (by decide), mDr_3 (by decide)]
  rfl
/-- drafts and sends -/
theorem iMs.snd {m : mD} {f t : Nat} {k a b : Int32} (h : iMs m) (hn : iMan m) (hf : f < 12) (ht : t < 12) (hd : m 0 23 = 0 ∨ m 0 23 = 1) (hq : okS f t (nI f, k, a, b)) : iMs (Fsends f t (Fdrafts k a b m)) := by
  rw [Fdrafts_eq]
  exact h.dr.sends hn.dr hf ht (by rw [mDr_q (by decide)]; exact hd) (by rw [dq_dr]; exact hq)
theorem okS_0 {f t : Nat} {q : mQ} (h : q.2.1 = 0) : okS f t q := Or.inl h
theorem iMs.send1 {m : mD} {f t : Nat} {w : Int32} (h : iMs m) (hn : iMan m) (hf : f < 12) (ht : t < 12) (hd : m 0 23 = 0 ∨ m 0 23 = 1) (hq : okS f t (dq f m)) : iMs (Fsend f t w m).2 := by
  obtain ⟨M, hM, hm⟩ := hn.1 t ht
  rw [(Fsend_eq (b := w) hf ht hm hM hd).1]
  by_cases c1 : FisAllowed (nI f) (nI t) = 0
  · rw [if_pos c1]; exact h.fr (m' := mForb m) (fun i => mForb_o (by omega)) (fun i _ => mForb_o (by omega)) (fun i => mForb_o (by omega)) (fun i _ => mForb_o (by omega))
  · rw [if_neg c1]
    by_cases c2 : Flives t m = 0
    · rw [if_pos c2]; exact h
    · rw [if_neg c2]
      by_cases c3 : ¬ w = 0 ∧ f = 2 ∧ t = 1 ∧ ¬ m 0 34 = m 0 25
      · rw [if_pos c3]; exact h
      · rw [if_neg c3]
        by_cases c4 : M = 12
        · rw [if_pos c4]; exact h
        · rw [if_neg c4]; exact h.put hf ht hm (by omega) hq
theorem iMs.drop {m : mD} {t k M : Nat} (h : iMs m) (hm : m 2 t = nI M) (hM : M ≤ 12) (hk : k < M) : iMs (mDrop t k m) := by
  refine ⟨fun t2 M2 j ht2 hM2 hm2 hj => ?_, fun p t2 hp ht2 e => ?_⟩
  · by_cases e : t2 = t
    · subst e
      have eM : M2 = M - 1 := (nI_eq (by omega) (by omega)).mp (hm2.symm.trans (mDrop_2 hm hM))
      subst eM
      rw [mq_drop_t hm hM hk hj]
      by_cases c : j < k
      · rw [if_pos c]; exact h.1 t2 M j ht2 hM hm (by omega)
      · rw [if_neg c]; exact h.1 t2 M (j + 1) ht2 hM hm (by omega)
    · rw [mq_drop_o hm hM hk e (by omega)]
      exact h.1 t2 M2 j ht2 hM2 ((mDrop_o (by decide) (by omega)).symm.trans hm2) hj
  · have o : ∀ i, mDrop t k m 4 i = m 4 i := fun i => mDrop_o (by decide) (by omega)
    have ek : kq (mDrop t k m) p = kq m p := by rw [kq, kq, o, o, o]
    rw [ek]; exact h.2 p t2 hp ht2 ((mDrop_o (by decide) (by omega)).symm.trans e)
theorem iMs.take {m : mD} {t k M : Nat} (h : iMs m) (hm : m 2 t = nI M) (hM : M ≤ 12) (hk : k < M) : iMs (mTake t k m) := by
  rw [mTake]
  exact (h.fr (m' := fil m 6 0 13 (fun i => m 1 (13 * (12 * t + k) + i))) (fun i => fil_q (by decide)) (fun i _ => fil_q (by decide)) (fun i => fil_q (by decide)) (fun i _ => fil_q (by decide))).drop (by rw [fil_q (by decide)]; exact hm) hM hk
/-- an inbox emptied, what is kept let go -/
theorem iMs.clr {m m' : mD} (h : iMs m) (h1 : ∀ i, m' 1 i = m 1 i) (h2 : ∀ i, i < 12 → m' 2 i = m 2 i ∨ m' 2 i = nI 0) (h4 : ∀ i, m' 4 i = m 4 i) (h5 : ∀ i, i < 12 → m' 5 i = m 5 i ∨ m' 5 i = -1) : iMs m' := by
  refine ⟨fun t M k ht hM hm hk => ?_, fun p t hp ht e => ?_⟩
  · rcases h2 t ht with z | z
    · rw [mq_fr h1]; exact h.1 t M k ht hM (z.symm.trans hm) hk
    · have : M = 0 := (nI_eq (by omega) (by omega)).mp (hm.symm.trans z)
      omega
  · rcases h5 p hp with z | z
    · have ek : kq m' p = kq m p := by rw [kq, kq, h4, h4, h4]
      rw [ek]; exact h.2 p t hp ht (z.symm.trans e)
    · rw [z] at e
      exact absurd e.symm (nI_ne_m1 t (by omega))
def mAg (p : Nat) (m : mD) : mD := ab_up (fil m 3 0 13 (fun i => m 4 (13 * p + i))) 5 p (-1)
theorem FsendsAgain_no {p : Nat} {m : mD} (h : m 5 p = -1) : FsendsAgain p m = (nI 0, m) := by
  have hn : ¬ (0 : Int32) ≤ m 5 p := by rw [h]; decide
  rw [FsendsAgain, if_neg hn]
theorem FsendsAgain_yes {p t : Nat} {m : mD} (hp : p < 12) (ht : t < 12) (h : m 5 p = nI t) (hn : iMan m) (hd : m 0 23 = 0 ∨ m 0 23 = 1) : FsendsAgain p m = (nI 1, Fsends p t (mAg p m)) := by
  have hn0 : (0 : Int32) ≤ m 5 p := by rw [h]; exact nI_pos' (by omega)
  obtain ⟨M, hM, hm⟩ := hn.1 t ht
  have e2 : mAg p m 2 t = nI M := by rw [mAg, ab_up_ne (by decide), fil_q (by decide)]; exact hm
  have e23 : mAg p m 0 23 = m 0 23 := by rw [mAg, ab_up_ne (by decide), fil_q (by decide)]
  have D := (Fsends_cases (f := p) (t := t) hp ht e2 hM (by rw [e23]; exact hd)).1
  have L := FsendsAgain_13_l hp ht h D 14 0 (by omega) (by omega)
  rw [fil_0] at L
  rw [FsendsAgain, if_pos hn0]
  exact L.1
theorem dq_ag {p : Nat} {m : mD} : dq p (mAg p m) = kq m p := by
  have q : ∀ i, i < 13 → mAg p m 3 i = m 4 (13 * p + i) := fun i hi => by rw [mAg, ab_up_ne (by decide), fil_in (by omega) (by omega), Nat.sub_zero]
  rw [dq, kq, q 1 (by decide), q 2 (by decide), q 3 (by decide)]
theorem mAg_o {p : Nat} {m : mD} {a j : Nat} (h3 : ¬ a = 3) (h5 : ¬ (a = 5 ∧ j = p)) : mAg p m a j = m a j := by
  rw [mAg, ab_up_na h5, fil_q h3]
theorem iMan.ag {p : Nat} {m : mD} (h : iMan m) : iMan (mAg p m) := by
  refine ⟨fun t ht => by rw [mAg_o (by decide) (by omega)]; exact h.1 t ht, fun q hq => ?_⟩
  by_cases e : q = p
  · subst e; rw [mAg, ab_up_eq]; exact Or.inl rfl
  · rw [mAg_o (by decide) (by omega)]; exact h.2 q hq
theorem iMs.ag {p : Nat} {m : mD} (h : iMs m) : iMs (mAg p m) := h.clr (fun i => mAg_o (by decide) (by omega)) (fun i _ => Or.inl (mAg_o (by decide) (by omega))) (fun i => mAg_o (by decide) (by omega)) (fun i _ => by
  by_cases e : i = p
  · subst e; rw [mAg, ab_up_eq]; exact Or.inr rfl
  · exact Or.inl (mAg_o (by decide) (by omega)))
theorem iMs.again {p : Nat} {m : mD} (h : iMs m) (hn : iMan m) (hp : p < 12) (hd : m 0 23 = 0 ∨ m 0 23 = 1) : iMs (FsendsAgain p m).2 := by
  rcases hn.2 p hp with z | ⟨t, ht, z⟩
  · rw [FsendsAgain_no z]; exact h
  · rw [FsendsAgain_yes hp ht z hn hd]
    exact h.ag.sends hn.ag hp ht (by rw [mAg_o (by decide) (by omega)]; exact hd) (by rw [dq_ag]; exact h.2 p t hp ht z)
