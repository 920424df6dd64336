/-! PROCESSES, I: answers, what it waits for, FORK -/
theorem sendR {x : xD} {m : mD} {f t : Nat} {k a b : Int32} (h : R3 x m) (hf : f < 12) (ht : t < 12) (hd : m 0 23 = 0 ∨ m 0 23 = 1) (hk : ¬ k = 21 ∧ ¬ k = 22) (hft : ¬ (f = 2 ∧ t = 1)) (h5 : m 5 f = -1) (htl : ¬ m 0 34 = 0) :
    DX1_send (nI f) (nI t) k a b x ∧ Dsends f t (Fdrafts k a b m) ∧ R3 (FX1_send (nI f) (nI t) k a b x) (Fsends f t (Fdrafts k a b m)) ∧ FrX x (FX1_send (nI f) (nI t) k a b x) ∧ FrM m (Fsends f t (Fdrafts k a b m)) := by
  obtain ⟨s1, s2, s3, s4, s5, s6⟩ := send_rel (f := f) (t := t) (k := k) (a := a) (b := b) h.1 h.2.1 hf ht hd hk hft h5 htl
  exact ⟨s1, s2, ⟨s3, s4, h.2.2.send s5 s6⟩, s5, s6⟩
theorem tells_rel {x : xD} {m : mD} {f u : Nat} {v : Int32} (h : R3 x m) (hf : f < 12) (hu : u < 12) (hfu : ¬ (f = 2 ∧ u = 1)) (hd : m 0 23 = 0 ∨ m 0 23 = 1) (h5 : m 5 f = -1) (htl : ¬ m 0 34 = 0) :
    DX1_send (nI f) (nI u) (nI 50) v (nI 0) x ∧ Dtells f u v m ∧ R3 (FX1_send (nI f) (nI u) (nI 50) v (nI 0) x) (Ftells f u v m) ∧ FrX x (FX1_send (nI f) (nI u) (nI 50) v (nI 0) x) ∧ FrM m (Ftells f u v m) := by
  obtain ⟨s1, s2, s3, s5, s6⟩ := sendR (f := f) (t := u) (k := nI 50) (a := v) (b := nI 0) h hf hu hd (by decide) hfu h5 htl
  exact ⟨s1, ⟨Ddrafts_ok _ _ _ _, s2, trivial⟩, s3, s5, s6⟩
theorem holds_rel {x : xD} {m : mD} {f w a k y : Int32} (h : R3 x m) (hf : f = (if k = 8 then 1 else 0)) (ha : a = (if k = 9 then -1 else y)) : R3 (FX8_waitFor f w a x) (Fholds k y w m) := by
  obtain ⟨r1, r2, b1, b2, b3, b4, b5, b6, b7, b8⟩ := h
  have mo : ∀ q j, ¬ (q = 0 ∧ 43 ≤ j ∧ j ≤ 46) → Fholds k y w m q j = m q j := fun q j hq => by
    show ab_up (ab_up (ab_up (ab_up m 0 43 (nI 1)) 0 44 k) 0 45 y) 0 46 w q j = _
    rw [ab_up_na (by omega), ab_up_na (by omega), ab_up_na (by omega), ab_up_na (by omega)]
  have xo : ∀ q j, ¬ q = 357 → (FX8_waitFor f w a x).1 q j = x.1 q j := fun q j hq => by
    show ab_up (ab_up (ab_up (ab_up x.1 357 4 (nI 1)) 357 5 f) 357 6 w) 357 7 a q j = _
    rw [ab_up_ne hq, ab_up_ne hq, ab_up_ne hq, ab_up_ne hq]
  obtain ⟨c1, c2⟩ := RMH.rest (x' := FX8_waitFor f w a x) (m' := Fholds k y w m) r1 r2 rfl (fun q j _ hq => xo q j (by omega)) (fun q j hq => mo q j (by omega)) (fun j hj => mo 0 j (by omega))
  refine ⟨c1, c2, b1, b2, b3, b4, b5, b6, ?_, b8⟩
  have b7' : (∀ u, u < 12 → 4 ≤ u → x.1 358 u = m 11 u ∧ x.1 359 u = m 12 u ∧ x.1 360 u = (if m 7 u = 2 then 1 else 0) ∧ x.1 361 u = m 13 u) ∧ x.1 357 4 = m 0 43 ∧ (m 0 43 = 1 → x.1 357 5 = (if m 0 44 = 8 then 1 else 0) ∧ x.1 357 6 = m 0 46 ∧ x.1 357 7 = (if m 0 44 = 9 then -1 else m 0 45)) := b7
  show (∀ u, u < 12 → 4 ≤ u → x.1 358 u = m 11 u ∧ x.1 359 u = m 12 u ∧ x.1 360 u = (if m 7 u = 2 then 1 else 0) ∧ x.1 361 u = m 13 u) ∧ nI 1 = nI 1 ∧ (nI 1 = 1 → f = (if k = 8 then 1 else 0) ∧ w = w ∧ a = (if k = 9 then -1 else y))
  exact ⟨b7'.1, rfl, fun _ => ⟨hf, rfl, ha⟩⟩
theorem FrM.k {m n : mD} (h : FrM m n) {a j : Nat} (ha : (6 ≤ a ∨ (a = 0 ∧ j ≠ 6 ∧ j ≠ 7))) : n a j = m a j := h a j ha
theorem Fholds_o {k y w : Int32} {m : mD} {q j : Nat} (hq : ¬ (q = 0 ∧ 43 ≤ j ∧ j ≤ 46)) : Fholds k y w m q j = m q j := by
  show ab_up (ab_up (ab_up (ab_up m 0 43 (nI 1)) 0 44 k) 0 45 y) 0 46 w q j = _
  rw [ab_up_na (by omega), ab_up_na (by omega), ab_up_na (by omega), ab_up_na (by omega)]
theorem DX8_waitFor_ok {f w a : Int32} {x : xD} (h : f = 0 ∨ f = 1) : DX8_waitFor f w a x := ⟨h, trivial⟩
theorem ended_of {x : xD} {m : mD} {u : Nat} (h : R3 x m) (hu : u < 12) (hu4 : 4 ≤ u) : x.1 360 u = (if m 7 u = 2 then 1 else 0) := (h.2.2.2.2.2.2.2.2.1.1 u hu hu4).2.2.1
theorem parent_of {x : xD} {m : mD} {u : Nat} (h : R3 x m) (hu : u < 12) (hu4 : 4 ≤ u) : x.1 358 u = m 11 u := (h.2.2.2.2.2.2.2.2.1.1 u hu hu4).1
theorem code_of {x : xD} {m : mD} {u : Nat} (h : R3 x m) (hu : u < 12) (hu4 : 4 ≤ u) : x.1 359 u = m 12 u := (h.2.2.2.2.2.2.2.2.1.1 u hu hu4).2.1
theorem waits_of {x : xD} {m : mD} {u : Nat} (h : R3 x m) (hu : u < 12) (hu4 : 4 ≤ u) : x.1 361 u = m 13 u := (h.2.2.2.2.2.2.2.2.1.1 u hu hu4).2.2.2
theorem fork_l {x : xD} {m : mD} {u : Nat} (h : R3 x m) (hu : u < 12) (hd : m 0 23 = 0 ∨ m 0 23 = 1) (h5 : m 5 3 = -1) (htl : ¬ m 0 34 = 0) (hs : iSta m) : ∀ (n k : Nat), 5 ≤ k → k ≤ 12 → 12 - k < n → DX8_fork_2 n (nI u) k x ∧ Dforks_2 n u k m ∧ R3 (FX8_fork_2 n (nI u) k x) (Fforks_2 n u k m) := by
  intro n
  induction n with
  | zero => intro k _ _ h; omega
  | succ n ih =>
    intro k h5k hk hn
    rw [FX8_fork_2, DX8_fork_2, Fforks_2, Dforks_2]
    by_cases e : 12 ≤ k
    · have e12 : k = 12 := by omega
      obtain ⟨t1, t2, t3, -⟩ := tells_rel (f := 3) (u := u) (v := -9) h (by decide) hu (by omega) hd h5 htl
      rw [if_pos e, if_pos e, if_pos e12]
      exact ⟨⟨by omega, fun _ => ⟨t1, trivial⟩, fun z => absurd e z⟩, ⟨by omega, fun _ => ⟨by omega, fun _ => ⟨t2, trivial⟩, fun z => absurd e12 z⟩, fun z => absurd e z⟩, t3⟩
    · have e12 : ¬ k = 12 := by omega
      obtain ⟨i1, i2, i3⟩ := ih (k + 1) (by omega) (by omega) (by omega)
      have hlv := live_user h.1 (show k < 12 by omega) (show 4 ≤ k by omega)
      have hen := ended_of h (show k < 12 by omega) (show 4 ≤ k by omega)
      rw [if_neg e, if_neg e, if_neg e12]
      rcases hs k (by omega) (by omega) with s | s | s
      · have l0 : x.1 3 k = 0 := hlv.mpr (by rw [s]; decide)
        have n0 : x.1 360 k = 0 := by rw [hen, s]; decide
        rw [if_pos l0, if_pos n0, if_pos s]
        have H := holds_rel (f := nI 1) (w := nI k) (a := nI u) (k := nI 8) (y := nI u) h (by decide) (by rw [if_neg (by decide)])
        obtain ⟨t1, t2, t3, -⟩ := sendR (f := 3) (t := 2) (k := nI 30) (a := nI u) (b := nI k) H (by decide) (by decide) (by rw [Fholds_o (by omega)]; exact hd) (by decide) (by decide) (by rw [Fholds_o (by omega)]; exact h5) (by rw [Fholds_o (by omega)]; exact htl)
        exact ⟨⟨by omega, fun z => absurd z e, fun _ => ⟨by omega, fun _ => ⟨by omega, fun _ => ⟨DX8_waitFor_ok (Or.inr rfl), t1, trivial⟩, fun z => absurd n0 z⟩, fun z => absurd l0 z⟩⟩, ⟨by omega, fun z => absurd z e, fun _ => ⟨by omega, fun _ => ⟨by omega, fun z => absurd z e12, fun _ => ⟨Ddrafts_ok _ _ _ _, t2, trivial⟩⟩, fun z => absurd s z⟩⟩, t3⟩
      · have l0 : ¬ x.1 3 k = 0 := fun z => hlv.mp z (by rw [s]; rfl)
        have s0 : ¬ m 7 k = 0 := by rw [s]; decide
        rw [if_neg l0, if_neg s0]
        exact ⟨⟨by omega, fun z => absurd z e, fun _ => ⟨by omega, fun z => absurd z l0, fun _ => i1⟩⟩, ⟨by omega, fun z => absurd z e, fun _ => ⟨by omega, fun z => absurd z s0, fun _ => i2⟩⟩, i3⟩
      · have l0 : x.1 3 k = 0 := hlv.mpr (by rw [s]; decide)
        have n0 : ¬ x.1 360 k = 0 := by rw [hen, s]; decide
        have s0 : ¬ m 7 k = 0 := by rw [s]; decide
        rw [if_pos l0, if_neg n0, if_neg s0]
        exact ⟨⟨by omega, fun z => absurd z e, fun _ => ⟨by omega, fun _ => ⟨by omega, fun z => absurd z n0, fun _ => i1⟩, fun z => absurd l0 z⟩⟩, ⟨by omega, fun z => absurd z e, fun _ => ⟨by omega, fun z => absurd z s0, fun _ => i2⟩⟩, i3⟩
theorem fork_rel {x : xD} {m : mD} {u : Nat} (h : R3 x m) (hu : u < 12) (hd : m 0 23 = 0 ∨ m 0 23 = 1) (h5 : m 5 3 = -1) (htl : ¬ m 0 34 = 0) (hs : iSta m) : DX8_fork (nI u) x ∧ Dforks u m ∧ R3 (FX8_fork (nI u) x) (Fforks u m) := fork_l h hu hd h5 htl hs 9 5 (by decide) (by decide) (by decide)
