/-! PROCESSES, IV: what FILES has done (32) -/
theorem Fsends_cases {f t M : Nat} {m : mD} (hf : f < 12) (ht : t < 12) (hm : m 2 t = nI M) (hM : M ≤ 12) (hd : m 0 23 = 0 ∨ m 0 23 = 1) : Dsends f t m ∧
    ((FisAllowed (nI f) (nI t) = 0 ∧ Fsends f t m = mForb m) ∨
     (¬ FisAllowed (nI f) (nI t) = 0 ∧ (Flives t m = 0 ∨ (f = 2 ∧ t = 1 ∧ ¬ m 0 34 = m 0 25)) ∧ Fsends f t m = m) ∨
     (¬ FisAllowed (nI f) (nI t) = 0 ∧ ¬ Flives t m = 0 ∧ ¬ (f = 2 ∧ t = 1 ∧ ¬ m 0 34 = m 0 25) ∧ M = 12 ∧ Fsends f t m = mKeep f t m) ∨
     (¬ FisAllowed (nI f) (nI t) = 0 ∧ ¬ Flives t m = 0 ∧ ¬ (f = 2 ∧ t = 1 ∧ ¬ m 0 34 = m 0 25) ∧ M < 12 ∧ Fsends f t m = mPut t (ab_up m 3 0 (nI f)))) := by
  obtain ⟨s1, s2⟩ := Fsend_eq (f := f) (t := t) (b := nI 1) hf ht hm hM hd
  obtain ⟨g1, g2⟩ := Fsends_eq (t := t) hf s2
  refine ⟨g2, ?_⟩
  rw [g1, s1]
  by_cases c1 : FisAllowed (nI f) (nI t) = 0
  · rw [if_pos c1]
    dsimp only
    rw [if_neg nI13]
    exact Or.inl ⟨c1, rfl⟩
  · rw [if_neg c1]
    by_cases c2 : Flives t m = 0
    · rw [if_pos c2]
      dsimp only
      rw [if_neg nI23]
      exact Or.inr (Or.inl ⟨c1, Or.inl c2, rfl⟩)
    · rw [if_neg c2]
      by_cases c3 : f = 2 ∧ t = 1 ∧ ¬ m 0 34 = m 0 25
      · rw [if_pos (show ¬ nI 1 = 0 ∧ f = 2 ∧ t = 1 ∧ ¬ m 0 34 = m 0 25 from ⟨nI10, c3⟩)]
        dsimp only
        rw [if_neg nI23]
        exact Or.inr (Or.inl ⟨c1, Or.inr c3, rfl⟩)
      · rw [if_neg (show ¬ (¬ nI 1 = 0 ∧ f = 2 ∧ t = 1 ∧ ¬ m 0 34 = m 0 25) from fun z => c3 z.2)]
        by_cases c4 : M = 12
        · rw [if_pos c4]
          dsimp only
          rw [if_pos rfl]
          exact Or.inr (Or.inr (Or.inl ⟨c1, c2, c3, c4, rfl⟩))
        · rw [if_neg c4]
          dsimp only
          rw [if_neg nI03]
          exact Or.inr (Or.inr (Or.inr ⟨c1, c2, c3, by omega, rfl⟩))
theorem Ftells_eq {f u : Nat} {v : Int32} {m : mD} : Ftells f u v m = Fsends f u (mDr (nI 50) v (nI 0) m) := by
  rw [Ftells, Fdrafts_eq]
theorem allowed_3u : ∀ u, u < 12 → 4 ≤ u → ¬ FisAllowed (nI 3) (nI u) = 0 := by decide +kernel
/-- PROCESSES answers one: what stays with it -/
theorem tells_cases {m : mD} {p M : Nat} {v : Int32} (hp : p < 12) (h4 : 4 ≤ p) (hm : m 2 p = nI M) (hM : M ≤ 12) (hd : m 0 23 = 0 ∨ m 0 23 = 1) (h5 : m 5 3 = -1) : (Ftells 3 p v m) 5 3 = -1 ∨ ((Ftells 3 p v m) 5 3 = nI p ∧ (Ftells 3 p v m) 2 p = nI 12 ∧ ¬ Flives p (Ftells 3 p v m) = 0) := by
  have q : ∀ a j, a ≠ 3 → mDr (nI 50) v (nI 0) m a j = m a j := fun a j h => mDr_q h
  obtain ⟨-, c⟩ := Fsends_cases (f := 3) (t := p) (M := M) (m := mDr (nI 50) v (nI 0) m) (by decide) hp (by rw [q _ _ (by decide)]; exact hm) hM (by rw [q _ _ (by decide)]; exact hd)
  rw [Ftells_eq]
  rcases c with ⟨c1, -⟩ | ⟨-, -, c2⟩ | ⟨-, c2, -, c4, c5⟩ | ⟨-, -, -, -, c5⟩
  · exact absurd c1 (allowed_3u p hp h4)
  · rw [c2, q _ _ (by decide)]; exact Or.inl h5
  · rw [c5]
    refine Or.inr ⟨by rw [mKeep, ab_up_eq], ?_, ?_⟩
    · rw [mKeep_o (by decide) (by omega), q _ _ (by decide), hm, c4]
    · rw [Flives_congr (m := mDr (nI 50) v (nI 0) m) (mKeep_o (by decide) (by omega)) (mKeep_o (by decide) (by omega))]
      exact c2
  · rw [c5, mPut_o (by decide) (by decide) (by omega), ab_up_ne (by decide), q _ _ (by decide)]
    exact Or.inl h5
theorem xW_hold {s : Nat} {f k a b v : Int32} {c : mD} : xW s f k a b (ab_up c s 7 v) = xW s f k a b c := by
  funext q j
  by_cases hq : q = s
  · subst hq
    by_cases h7 : j = 7
    · subst h7
      rw [(xW_s (s := q)).2.2.2.2.2.2, (xW_s (s := q)).2.2.2.2.2.2]
    · have e : ∀ c' : mD, xW q f k a b c' q j = (if j = 6 then nI 0 else if j = 5 then nI 0 else if j = 4 then b else if j = 3 then a else if j = 2 then k else if j = 1 then f else c' q j) := fun c' => by
        rw [xW, ab_up_nj h7]
        by_cases h6 : j = 6
        · subst h6; rw [ab_up_eq, if_pos rfl]
        · rw [ab_up_nj h6, if_neg h6]
          by_cases h5 : j = 5
          · subst h5; rw [ab_up_eq, if_pos rfl]
          · rw [ab_up_nj h5, if_neg h5]
            by_cases h4 : j = 4
            · subst h4; rw [ab_up_eq, if_pos rfl]
            · rw [ab_up_nj h4, if_neg h4]
              by_cases h3 : j = 3
              · subst h3; rw [ab_up_eq, if_pos rfl]
              · rw [ab_up_nj h3, if_neg h3]
                by_cases h2 : j = 2
                · subst h2; rw [ab_up_eq, if_pos rfl]
                · rw [ab_up_nj h2, if_neg h2]
                  by_cases h1 : j = 1
                  · subst h1; rw [ab_up_eq, if_pos rfl]
                  · rw [ab_up_nj h1, if_neg h1]
      rw [e, e, ab_up_nj h7]
  · rw [xW_o hq, xW_o hq, ab_up_ne hq]
/-- a second answer to one whose inbox is full -/
theorem tells_again {x : xD} {m : mD} {p : Nat} {v : Int32} (h : R3 x m) (hp : p < 12) (h4 : 4 ≤ p) (hd : m 0 23 = 0 ∨ m 0 23 = 1) (htl : ¬ m 0 34 = 0) (h5 : m 5 3 = nI p) (h12 : m 2 p = nI 12) (hl : ¬ Flives p m = 0) : DX1_send (nI 3) (nI p) (nI 50) v (nI 0) x ∧ Dtells 3 p v m ∧ R3 (FX1_send (nI 3) (nI p) (nI 50) v (nI 0) x) (Ftells 3 p v m) := by
  have o : ∀ a j, ¬ a = 117 → ab_up x.1 (33 + 28 * 3) 7 (-1) a j = x.1 a j := fun a j ha => ab_up_ne ha
  have H : R3 (ab_up x.1 (33 + 28 * 3) 7 (-1), x.2) (ab_up m 5 3 (-1)) := by
    refine ⟨(h.1.xc (x' := (ab_up x.1 (33 + 28 * 3) 7 (-1), x.2)) (fun _ _ _ _ => rfl) (fun p hp => o (7 + 28 * p) 1 (by omega)) (fun p hp a j _ _ => o a j (by omega)) (fun p hp => o 3 p (by omega)) (o 1 4 (by omega)) (o 1 5 (by omega)) (o 1 6 (by omega))).mc (fun _ _ => ab_up_ne (by decide)) (fun _ _ => ab_up_ne (by decide)) (fun _ _ => ab_up_ne (by decide)) (fun _ _ => ab_up_ne (by decide)), fun p hp => ?_, h.2.2.fr (fun a j ha => ab_up_ne (by omega)) (fun a j ha => ab_up_ne (by omega))⟩
    by_cases e : p = 3
    · subst e
      exact ⟨by show ab_up x.1 (33 + 28 * 3) 7 (-1) (33 + 28 * 3) 7 = ab_up m 5 3 (-1) 5 3; rw [ab_up_eq, ab_up_eq], Or.inl ab_up_eq⟩
    · exact (h.2.1 p hp).congr (fun j => ab_up_ne (by omega)) (fun j => ab_up_ne (by omega)) (ab_up_nj e) (fun i _ => ab_up_ne (by decide)) (ab_up_ne (by decide)) (ab_up_ne (by decide))
  obtain ⟨t1, t2, t3, -, -⟩ := tells_rel (f := 3) (u := p) (v := v) H (by decide) hp (by omega) (by rw [ab_up_ne (by decide)]; exact hd) ab_up_eq (by rw [ab_up_ne (by decide)]; exact htl)
  obtain ⟨d1, d2⟩ := FX1_draft_eq (f := 3) (k := nI 50) (a := v) (b := nI 0) (x := x) (by decide)
  obtain ⟨d1', d2'⟩ := FX1_draft_eq (f := 3) (k := nI 50) (a := v) (b := nI 0) (x := (ab_up x.1 (33 + 28 * 3) 7 (-1), x.2)) (by decide)
  have ed : FX1_draft (nI 3) (nI 50) v (nI 0) x = FX1_draft (nI 3) (nI 50) v (nI 0) (ab_up x.1 (33 + 28 * 3) 7 (-1), x.2) := by
    rw [d1, d1', xW_hold]
  have ex : FX1_send (nI 3) (nI p) (nI 50) v (nI 0) x = FX1_send (nI 3) (nI p) (nI 50) v (nI 0) (ab_up x.1 (33 + 28 * 3) 7 (-1), x.2) := by
    rw [FX1_send, FX1_send, ed]
  have dx : DX1_send (nI 3) (nI p) (nI 50) v (nI 0) x := by
    rw [DX1_send, ed]
    rw [DX1_send] at t1
    exact ⟨d2, t1.2⟩
  have q : ∀ m : mD, ∀ a j, a ≠ 3 → mDr (nI 50) v (nI 0) m a j = m a j := fun m a j h => mDr_q h
  have L : ∀ m' : mD, m' 2 p = nI 12 → (m' 0 23 = 0 ∨ m' 0 23 = 1) → ¬ Flives p m' = 0 → Dsends 3 p (mDr (nI 50) v (nI 0) m') ∧ Ftells 3 p v m' = mKeep 3 p (mDr (nI 50) v (nI 0) m') := fun m' e2 ed el => by
    obtain ⟨g, c⟩ := Fsends_cases (f := 3) (t := p) (M := 12) (m := mDr (nI 50) v (nI 0) m') (by decide) hp (by rw [q _ _ _ (by decide)]; exact e2) (by decide) (by rw [q _ _ _ (by decide)]; exact ed)
    have el' : ¬ Flives p (mDr (nI 50) v (nI 0) m') = 0 := by rw [Flives_congr (m := m') (q _ _ _ (by decide)) (q _ _ _ (by decide))]; exact el
    refine ⟨g, ?_⟩
    rw [Ftells_eq]
    rcases c with ⟨c1, -⟩ | ⟨-, c1, -⟩ | ⟨-, -, -, -, c5⟩ | ⟨-, -, -, c4, -⟩
    · exact absurd c1 (allowed_3u p hp h4)
    · rcases c1 with z | z
      · exact absurd z el'
      · exact absurd z.1 (by decide)
    · exact c5
    · omega
  obtain ⟨g1, g2⟩ := L m h12 hd hl
  obtain ⟨-, g4⟩ := L (ab_up m 5 3 (-1)) (by rw [ab_up_ne (by decide)]; exact h12) (by rw [ab_up_ne (by decide)]; exact hd) (by rw [Flives_congr (m := m) (ab_up_ne (by decide)) (ab_up_ne (by decide))]; exact hl)
  have em : Ftells 3 p v m = Ftells 3 p v (ab_up m 5 3 (-1)) := by
    rw [g2, g4]
    funext a j
    rw [mKeep, mKeep]
    by_cases e : a = 5 ∧ j = 3
    · obtain ⟨rfl, rfl⟩ := e
      rw [ab_up_eq, ab_up_eq]
    · rw [ab_up_na e, ab_up_na e]
      have e3 : mDr (nI 50) v (nI 0) (ab_up m 5 3 (-1)) 3 = mDr (nI 50) v (nI 0) m 3 := by
        funext i
        by_cases hi : i < 13
        · rw [mDr_3 hi, mDr_3 hi]
        · rw [mDr, mDr, ab_up_nj (by omega), ab_up_nj (by omega), ab_up_nj (by omega), ab_up_nj (by omega), ab_up_nj (by omega), ab_up_nj (by omega), fil_out (by omega), fil_out (by omega), ab_up_ne (by decide)]
      rw [e3]
      by_cases ha3 : a = 3
      · subst ha3
        rw [fil_q (by decide), fil_q (by decide), e3]
      · have e4 : mDr (nI 50) v (nI 0) (ab_up m 5 3 (-1)) a j = mDr (nI 50) v (nI 0) m a j := by rw [q _ _ _ ha3, q _ _ _ ha3, ab_up_na e]
        rw [fil, fil, e4]
  rw [ex, em]
  refine ⟨dx, ?_, t3⟩
  refine ⟨Ddrafts_ok _ _ _ _, ?_, trivial⟩
  rw [Fdrafts_eq]
  exact g1
