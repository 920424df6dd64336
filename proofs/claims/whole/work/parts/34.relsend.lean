/-! SENDING, here and there -/
def mForb (m : mD) : mD := ab_up m 0 6 (m 0 6 + 1)
theorem isUser_z : ∀ p, p < 12 → (FisUser (nI p) = 0 ↔ p < 4) := by decide +kernel
theorem isUser_v : ∀ p, p < 12 → (FisUser (nI p) = 0 ∨ FisUser (nI p) = 1) := by decide +kernel
theorem Dlives_ok {p : Nat} {m : mD} (hp : p < 12) (hd : m 0 23 = 0 ∨ m 0 23 = 1) : Dlives p m := ⟨by omega, fun _ => ⟨hd, trivial⟩, fun _ => ⟨fun _ => trivial, fun _ => ⟨hp, trivial⟩⟩⟩
theorem Fsend_eq {f t M : Nat} {b : Int32} {m : mD} (hf : f < 12) (ht : t < 12) (hm : m 2 t = nI M) (hM : M ≤ 12) (hd : m 0 23 = 0 ∨ m 0 23 = 1) :
    Fsend f t b m = (if FisAllowed (nI f) (nI t) = 0 then (nI 1, mForb m) else if Flives t m = 0 then (nI 2, m) else if ¬ b = 0 ∧ f = 2 ∧ t = 1 ∧ ¬ m 0 34 = m 0 25 then (nI 2, m) else if M = 12 then (nI 3, m) else (nI 0, mPut t (ab_up m 3 0 (nI f)))) ∧ Dsend f t b m := by
  have hc : (nI M).toNatClampNeg = M := nI_clamp (by omega)
  have h5 := Fsend_55_eq (f := f) (t := t) (b := b) (m := m) ht (by rw [hm]; exact nI_pos (by omega)) (by rw [hm, hc]; exact hM)
  rw [hm, hc] at h5
  obtain ⟨h5, h5D⟩ := h5
  have e0 : (0 : Int32) = nI 0 := rfl
  rw [e0] at h5
  refine ⟨?_, fun _ => trivial, fun _ => ⟨Dlives_ok ht hd, fun _ => trivial, fun _ => ⟨fun _ => h5D, fun _ => ⟨by omega, fun _ => ⟨by omega, fun _ => ⟨fun _ => h5D, fun _ => trivial⟩, fun _ => h5D⟩, fun _ => h5D⟩⟩⟩⟩
  rw [Fsend]
  by_cases ha : FisAllowed (nI f) (nI t) = 0
  · rw [if_pos ha, if_pos ha]; rfl
  · rw [if_neg ha, if_neg ha]
    by_cases hl : Flives t m = 0
    · rw [if_pos hl, if_pos hl]
    · rw [if_neg hl, if_neg hl]
      by_cases hb : b = 0
      · rw [if_pos hb, if_neg (fun z => z.1 hb)]
        exact h5
      · rw [if_neg hb]
        by_cases hf2 : f = 2
        · by_cases ht1 : t = 1
          · by_cases hlf : m 0 34 = m 0 25
            · rw [if_pos hf2, if_pos ht1, if_pos hlf, if_neg (fun z => z.2.2.2 hlf)]
              exact h5
            · rw [if_pos hf2, if_pos ht1, if_neg hlf, if_pos ⟨hb, hf2, ht1, hlf⟩]
          · rw [if_pos hf2, if_neg ht1, if_neg (fun z => ht1 z.2.2.1)]
            exact h5
        · rw [if_neg hf2, if_neg (fun z => hf2 z.2.1)]
          exact h5
/-- what the core tells is the same; and then the states -/
theorem post_send {x : xD} {m : mD} {q f t : Nat} {b : Int32} (h : RM x m) (hqm : q = 5 ∨ ∃ p, p < 12 ∧ q = 33 + 28 * p) (hf : x.1 q 1 = nI f) (hf12 : f < 12) (ht : t < 12) (hd : m 0 23 = 0 ∨ m 0 23 = 1)
    (hlf : (x.1 q 6 = 0 ∨ x.1 q 6 = x.1 1 4) ↔ ¬ (¬ b = 0 ∧ f = 2 ∧ t = 1 ∧ ¬ m 0 34 = m 0 25)) :
    DX1_post q (nI t) x ∧ Dsend f t b m ∧
    ((FX1_post q (nI t) x = (nI 1, xForb x) ∧ Fsend f t b m = (nI 1, mForb m)) ∨ (FX1_post q (nI t) x = (nI 2, x) ∧ Fsend f t b m = (nI 2, m)) ∨ (FX1_post q (nI t) x = (nI 3, xHold q t x) ∧ Fsend f t b m = (nI 3, m)) ∨
      ∃ M, M < 12 ∧ m 2 t = nI M ∧ FX1_post q (nI t) x = (nI 0, xPut q t M x) ∧ Fsend f t b m = (nI 0, mPut t (ab_up m 3 0 (nI f)))) := by
  obtain ⟨hr, hb, hl, h4, h5, h6⟩ := h
  obtain ⟨M, hM, e1, e2, e3⟩ := hb t ht
  obtain ⟨p1, p2⟩ := FX1_post_eq hqm hf hf12 ht hr hM e2
  obtain ⟨s1, s2⟩ := Fsend_eq (b := b) hf12 ht e1 hM hd
  refine ⟨p2, s2, ?_⟩
  rw [p1, s1, hl t ht]
  by_cases ha : FisAllowed (nI f) (nI t) = 0
  · rw [if_pos ha, if_pos ha]
    exact Or.inl ⟨rfl, rfl⟩
  · rw [if_neg ha, if_neg ha]
    by_cases hv : Flives t m = 0
    · rw [if_pos hv, if_pos hv]
      exact Or.inr (Or.inl ⟨rfl, rfl⟩)
    · rw [if_neg hv, if_neg hv]
      by_cases hg : ¬ b = 0 ∧ f = 2 ∧ t = 1 ∧ ¬ m 0 34 = m 0 25
      · rw [if_neg (fun z => hlf.mp z hg), if_pos hg]
        exact Or.inr (Or.inl ⟨rfl, rfl⟩)
      · rw [if_pos (hlf.mpr hg), if_neg hg]
        by_cases h12 : M = 12
        · rw [if_pos h12, if_pos h12]
          exact Or.inr (Or.inr (Or.inl ⟨rfl, rfl⟩))
        · rw [if_neg h12, if_neg h12]
          exact Or.inr (Or.inr (Or.inr ⟨M, by omega, e1, rfl, rfl⟩))
/-- what of the class the relation looks at -/
theorem RM.xc {x x' : xD} {m : mD} (h : RM x m) (hr : ∀ p, p < 12 → ∀ k, k < 12 → x'.2 (8 + 28 * p) k = x.2 (8 + 28 * p) k) (h1 : ∀ p, p < 12 → x'.1 (7 + 28 * p) 1 = x.1 (7 + 28 * p) 1) (h2 : ∀ p, p < 12 → ∀ a j, 9 + 28 * p ≤ a → a < 33 + 28 * p → x'.1 a j = x.1 a j) (h3 : ∀ p, p < 12 → x'.1 3 p = x.1 3 p) (h4 : x'.1 1 4 = x.1 1 4) (h5 : x'.1 1 5 = x.1 1 5) (h6 : x'.1 1 6 = x.1 1 6) : RM x' m := by
  obtain ⟨a1, a2, a3, a4, a5, a6⟩ := h
  refine ⟨fun p hp => ⟨fun k hk => ?_, fun k l hk hl => ?_⟩, fun p hp => (a2 p hp).congr hp a1 (hr p hp) (h1 p hp) rfl rfl (h2 p hp) (fun _ _ _ => rfl), fun p hp => (h3 p hp).trans (a3 p hp), h4.trans a4, h5.trans a5, h6.trans a6⟩
  · rw [hr p hp k hk]; exact (a1 p hp).1 k hk
  · rw [hr p hp k hk, hr p hp l hl]; exact (a1 p hp).2 k l hk hl
/-- what of the reference the relation looks at -/
theorem RM.mc {x : xD} {m m' : mD} (h : RM x m) (h1 : ∀ i, i < 1872 → m' 1 i = m 1 i) (h2 : ∀ p, p < 12 → m' 2 p = m 2 p) (h3 : ∀ p, p < 12 → m' 7 p = m 7 p) (h0 : ∀ j, j = 40 ∨ j = 23 ∨ j = 25 ∨ j = 6 ∨ j = 7 → m' 0 j = m 0 j) : RM x m' := by
  obtain ⟨a1, a2, a3, a4, a5, a6⟩ := h
  refine ⟨a1, fun p hp => (a2 p hp).congr hp a1 (fun _ _ => rfl) rfl (h2 p hp) (h0 40 (by omega)) (fun _ _ _ _ => rfl) (fun i _ hi => h1 i (by omega)), fun p hp => ?_, by rw [h0 25 (by omega)]; exact a4, by rw [h0 6 (by omega)]; exact a5, by rw [h0 7 (by omega)]; exact a6⟩
  rw [Flives_congr (h0 23 (by omega)) (h3 p hp)]
  exact a3 p hp
theorem RM.forb {x : xD} {m : mD} (h : RM x m) : RM (xForb x) (mForb m) := by
  obtain ⟨a1, a2, a3, a4, a5, a6⟩ := h
  have o : ∀ a j, a ≠ 1 → (xForb x).1 a j = x.1 a j := fun a j ha => ab_up_ne ha
  have om : ∀ a j, ¬ (a = 0 ∧ j = 6) → mForb m a j = m a j := fun a j ha => by
    rw [mForb]
    by_cases e : a = 0
    · subst e; exact ab_up_nj (fun z => ha ⟨rfl, z⟩)
    · exact ab_up_ne e
  refine ⟨a1, fun p hp => (a2 p hp).congr hp a1 (fun _ _ => rfl) (o _ _ (by omega)) (om _ _ (by omega)) (om _ _ (by omega)) (fun a j h1 h2 => o _ _ (by omega)) (fun i _ _ => om _ _ (by omega)), fun p hp => ?_, ?_, ?_, ?_⟩
  · rw [o _ _ (by decide), Flives_congr (om _ _ (by omega)) (om _ _ (by omega))]; exact a3 p hp
  · rw [om _ _ (by omega)]
    show ab_up x.1 1 5 (x.1 1 5 + 1) 1 4 = _
    rw [ab_up_nj (by decide)]; exact a4
  · show ab_up x.1 1 5 (x.1 1 5 + 1) 1 5 = ab_up m 0 6 (m 0 6 + 1) 0 6
    rw [ab_up_eq, ab_up_eq, a5]
  · rw [om _ _ (by omega)]
    show ab_up x.1 1 5 (x.1 1 5 + 1) 1 6 = _
    rw [ab_up_nj (by decide)]; exact a6
theorem RM.hold {x : xD} {m : mD} {q t : Nat} (h : RM x m) (hqm : q = 5 ∨ ∃ p, p < 12 ∧ q = 33 + 28 * p) : RM (xHold q t x) m := by
  have o : ∀ a j, a ≠ q → (xHold q t x).1 a j = x.1 a j := fun a j ha => ab_up_ne ha
  refine h.xc (fun _ _ _ _ => rfl) (fun p hp => o _ _ ?_) (fun p hp a j h1 h2 => o _ _ ?_) (fun p hp => o _ _ ?_) (o _ _ ?_) (o _ _ ?_) (o _ _ ?_) <;> rcases hqm with rfl | ⟨p2, hp2, rfl⟩ <;> omega
