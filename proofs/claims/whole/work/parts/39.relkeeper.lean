/-! WHO ENDS; THE DRIVER BROKEN AND STARTED ANEW; THE KEEPER's TURN -/
theorem ab_up_na {α : Type} {f : Nat → Nat → α} {q i a j : Nat} {v : α} (h : ¬ (a = q ∧ j = i)) : ab_up f q i v a j = f a j := by
  by_cases e : a = q
  · subst e; exact ab_up_nj (fun z => h ⟨rfl, z⟩)
  · exact ab_up_ne e
def xEnd (p : Nat) (x : xD) : xD := (ab_up (ab_up (ab_up x.1 3 p (nI 0)) (7 + 28 * p) 1 (nI 0)) (33 + 28 * p) 7 (-1), x.2)
theorem FX1_end_eq {p : Nat} {x : xD} (hp : p < 12) : FX1_end (nI p) x = xEnd p x ∧ DX1_end (nI p) x := by
  have hc : (nI p).toNatClampNeg = p := nI_clamp (by omega)
  rw [FX1_end, DX1_end, if_neg (isPart_nz hp), hc]
  have h0 := nI_pos (n := p) (by omega)
  exact ⟨rfl, fun z => absurd z (isPart_nz hp), fun _ => ⟨h0, hp, h0, hp, h0, hp, trivial⟩⟩
theorem xEnd_o {p : Nat} {x : xD} {a j : Nat} (h1 : ¬ (a = 3 ∧ j = p)) (h2 : ¬ (a = 7 + 28 * p ∧ j = 1)) (h3 : ¬ (a = 33 + 28 * p ∧ j = 7)) : (xEnd p x).1 a j = x.1 a j := by
  show ab_up _ _ _ _ a j = _
  rw [ab_up_na h3, ab_up_na h2, ab_up_na h1]
theorem RM.end_ {x : xD} {m m' : mD} {p : Nat} (h : RM x m) (hp : p < 12) (h1 : ∀ i, i < 1872 → m' 1 i = m 1 i) (h2 : m' 2 p = nI 0) (h2' : ∀ q, q < 12 → q ≠ p → m' 2 q = m 2 q) (hl : Flives p m' = nI 0) (hl' : ∀ q, q < 12 → q ≠ p → Flives q m' = Flives q m) (h0 : ∀ j, j = 40 ∨ j = 25 ∨ j = 6 ∨ j = 7 → m' 0 j = m 0 j) : RM (xEnd p x) m' := by
  obtain ⟨a1, a2, a3, a4, a5, a6⟩ := h
  refine ⟨a1, fun q hq => ?_, fun q hq => ?_, ?_, ?_, ?_⟩
  · by_cases e : q = p
    · subst e
      refine ⟨0, by omega, h2, ?_, fun k hk => by omega⟩
      show ab_up _ _ _ _ _ _ = _
      rw [ab_up_ne (by omega), ab_up_eq]
    · exact (a2 q hq).congr hq a1 (fun _ _ => rfl) (xEnd_o (by omega) (by omega) (by omega)) (h2' q hq e) (h0 40 (by omega)) (fun a j h1 h2 => xEnd_o (by omega) (by omega) (by omega)) (fun i _ hi => h1 i (by omega))
  · by_cases e : q = p
    · subst e
      rw [hl]
      show ab_up _ _ _ _ _ _ = _
      rw [ab_up_ne (by omega), ab_up_ne (by omega), ab_up_eq]
    · rw [hl' q hq e, xEnd_o (by omega) (by omega) (by omega)]
      exact a3 q hq
  · rw [h0 25 (by omega), xEnd_o (by omega) (by omega) (by omega)]
    exact a4
  · rw [h0 6 (by omega), xEnd_o (by omega) (by omega) (by omega)]
    exact a5
  · rw [h0 7 (by omega), xEnd_o (by omega) (by omega) (by omega)]
    exact a6
theorem RH.end_ {x : xD} {m m' : mD} {p : Nat} (h : RH x m) (hp : p < 12) (h5 : m' 5 p = -1) (h5' : ∀ q, q < 12 → q ≠ p → m' 5 q = m 5 q) (h4 : ∀ i, i < 156 → m' 4 i = m 4 i) (h40 : m' 0 40 = m 0 40) (h34 : m' 0 34 = m 0 34) : RH (xEnd p x) m' := by
  intro q hq
  by_cases e : q = p
  · subst e
    refine ⟨?_, Or.inl h5⟩
    rw [h5]
    exact ab_up_eq
  · exact (h q hq).congr (fun j => xEnd_o (by omega) (by omega) (by omega)) (fun j => xEnd_o (by omega) (by omega) (by omega)) (h5' q hq e) (fun i hi => h4 _ (by omega)) h40 h34
theorem xEnd_b {p : Nat} {x : xD} {a j : Nat} (hp : p < 12) (h : a = 0 ∨ 343 ≤ a) : (xEnd p x).1 a j = x.1 a j := xEnd_o (by omega) (by omega) (by omega)
/-- breakDriver against crashesNow -/
theorem break_rel {x : xD} {m : mD} (h : RM x m) (hH : RH x m) (hR : RR x.1 m) : DX10_breakDriver x ∧ RM (FX10_breakDriver x) (FcrashesNow m) ∧ RH (FX10_breakDriver x) (FcrashesNow m) ∧ RR (FX10_breakDriver x).1 (FcrashesNow m) := by
  obtain ⟨e1, e2⟩ := FX1_end_eq (p := 1) (x := x) (by decide)
  have ex : FX10_breakDriver x = (ab_up (ab_up (ab_up (ab_up (ab_up (xEnd 1 x).1 344 2 (nI 0)) 344 3 (nI 0)) 344 4 (-1)) 343 1 (nI 0)) 0 8 ((xEnd 1 x).1 0 8 + nI 1), (xEnd 1 x).2) := by
    rw [FX10_breakDriver, e1]
    rfl
  have r1 : RM (xEnd 1 x) (FcrashesNow m) := h.end_ (by decide) (fun i _ => rfl) rfl (fun q _ hq => by show ab_up _ _ _ _ _ _ = _; rw [ab_up_ne (by decide), ab_up_ne (by decide), ab_up_ne (by decide), ab_up_ne (by decide), ab_up_nj hq]; rfl) rfl (fun q _ hq => by rw [Flives, Flives, if_neg hq, if_neg hq]; rfl) (fun j hj => by rcases hj with rfl | rfl | rfl | rfl <;> rfl)
  have r2 : RH (xEnd 1 x) (FcrashesNow m) := hH.end_ (by decide) rfl (fun q _ hq => by show ab_up _ _ _ _ _ _ = _; rw [ab_up_ne (by decide), ab_up_ne (by decide), ab_up_nj hq]; rfl) (fun _ _ => rfl) rfl rfl
  have r3 : RR (xEnd 1 x).1 m := hR.fr (fun a j ha => xEnd_b (by decide) ha) (fun _ _ _ => rfl)
  refine ⟨⟨e2, trivial⟩, ?_⟩
  rw [ex]
  have o : ∀ a j, a ≠ 344 → a ≠ 343 → a ≠ 0 → (ab_up (ab_up (ab_up (ab_up (ab_up (xEnd 1 x).1 344 2 (nI 0)) 344 3 (nI 0)) 344 4 (-1)) 343 1 (nI 0)) 0 8 ((xEnd 1 x).1 0 8 + nI 1)) a j = (xEnd 1 x).1 a j := fun a j h1 h2 h3 => by
    rw [ab_up_ne h3, ab_up_ne h2, ab_up_ne h1, ab_up_ne h1, ab_up_ne h1]
  refine ⟨r1.xc (fun _ _ _ _ => rfl) (fun p hp => o _ _ (by omega) (by omega) (by omega)) (fun p hp a j _ _ => o _ _ (by omega) (by omega) (by omega)) (fun p hp => rfl) rfl rfl rfl, r2.fr (fun p hp j => ⟨o (33 + 28 * p) j (by omega) (by omega) (by omega), o (33 + 28 * p + 1) j (by omega) (by omega) (by omega)⟩) (fun _ _ => rfl) (fun _ _ => rfl) rfl rfl, ?_⟩
  obtain ⟨⟨h1, h2, h3⟩, ⟨k1, k2, k3⟩, ⟨d1, d2, d3, d4, d5, d6⟩, b4, b5, b6, b7, b8⟩ := r3
  have h3' : (xEnd 1 x).1 0 8 = m 0 30 := h3
  refine ⟨⟨h1, h2, ?_⟩, ⟨k1, rfl, fun z => absurd z (by show ¬ nI 0 = 1; decide)⟩, ⟨rfl, rfl, ?_, fun z => absurd rfl z, fun z => absurd z (by show ¬ nI 0 = 21; decide), d6⟩, b4, b5, b6, b7, b8⟩
  · show (xEnd 1 x).1 0 8 + nI 1 = m 0 30 + nI 1
    rw [h3']
  · show (-1 : Int32) = if nI 0 = 0 then -1 else nI 0
    rw [if_pos (by decide)]
/-- watchDead, against what the reference does while the driver doesn't live -/
def Fdead (m : mD) : mD := if (ab_up m 0 32 (m 0 32 + nI 1)) 0 32 = nI 3 then Fstarts (ab_up m 0 32 (m 0 32 + nI 1)) else ab_up m 0 32 (m 0 32 + nI 1)
def Ddead (m : mD) : Prop := (ab_up m 0 32 (m 0 32 + nI 1)) 0 32 = nI 3 → Dstarts (ab_up m 0 32 (m 0 32 + nI 1))
/-- what holds while the driver doesn't live -/
def iDead (m : mD) : Prop := m 0 23 = 0 → m 2 1 = nI 0 ∧ m 0 24 = 0 ∧ m 0 26 = 0 ∧ m 0 27 = 0 ∧ (m 0 32 = 0 ∨ m 0 32 = 1 ∨ m 0 32 = 2)
def mStart (m : mD) : mD := ab_up (ab_up (ab_up (ab_up (ab_up (ab_up (ab_up m 0 23 (nI 1)) 0 24 (nI 0)) 0 25 (m 0 25 + nI 1)) 0 26 (nI 0)) 0 27 (nI 0)) 2 1 (nI 0)) 0 33 (nI 0)
def xStart (x : xD) : xD := (ab_up (ab_up (ab_up x.1 343 2 (nI 0)) 3 1 (nI 1)) 1 4 (x.1 1 4 + nI 1), x.2)
theorem start_rel {x : xD} {m : mD} (h : RM x m) (hH : RH x m) (hR : RR x.1 m) (hi : m 2 1 = nI 0 ∧ m 0 24 = 0 ∧ m 0 26 = 0 ∧ m 0 27 = 0) : RM (xStart x) (mStart m) ∧ RH (xStart x) (mStart m) ∧ RR (xStart x).1 (mStart m) := by
  obtain ⟨i1, i2, i3, i4⟩ := hi
  have o : ∀ a j, a ≠ 343 → a ≠ 3 → a ≠ 1 → (xStart x).1 a j = x.1 a j := fun a j h1 h2 h3 => by
    show ab_up _ _ _ _ _ _ = _
    rw [ab_up_ne h3, ab_up_ne h2, ab_up_ne h1]
  have m2 : ∀ q, mStart m 2 q = m 2 q := fun q => by
    show ab_up _ _ _ _ _ _ = _
    rw [ab_up_ne (by decide)]
    by_cases e : q = 1
    · subst e; rw [ab_up_eq, i1]
    · rw [ab_up_nj e]; rfl
  refine ⟨?_, hH.fr (fun p hp j => ⟨o _ _ (by omega) (by omega) (by omega), o _ _ (by omega) (by omega) (by omega)⟩) (fun _ _ => rfl) (fun _ _ => rfl) rfl rfl, ?_⟩
  · obtain ⟨a1, a2, a3, a4, a5, a6⟩ := h
    refine ⟨a1, fun q hq => (a2 q hq).congr hq a1 (fun _ _ => rfl) (o _ _ (by omega) (by omega) (by omega)) (m2 q) rfl (fun a j _ _ => o _ _ (by omega) (by omega) (by omega)) (fun i _ _ => rfl), fun q hq => ?_, ?_, a5, a6⟩
    · by_cases e : q = 1
      · subst e; rfl
      · rw [Flives, if_neg e]
        have := a3 q hq
        rw [Flives, if_neg e] at this
        show ab_up (ab_up (ab_up x.1 343 2 (nI 0)) 3 1 (nI 1)) 1 4 (x.1 1 4 + nI 1) 3 q = _
        rw [ab_up_ne (by decide), ab_up_nj e]
        exact this
    · show x.1 1 4 + nI 1 = m 0 25 + nI 1
      rw [a4]
  · obtain ⟨b1, ⟨k1, k2, k3⟩, ⟨d1, d2, d3, d4, d5, d6⟩, b4, b5, b6, b7, b8⟩ := hR
    have d1 : x.1 344 2 = m 0 24 := d1
    have d2 : x.1 344 3 = m 0 26 := d2
    have d3 : x.1 344 4 = (if m 0 27 = 0 then -1 else m 0 27) := d3
    rw [i4, if_pos rfl] at d3
    refine ⟨b1, ⟨k1, k2, fun _ => rfl⟩, ⟨d1.trans i2, d2.trans i3, ?_, fun z => absurd rfl z, fun z => absurd z (by show ¬ nI 0 = 21; decide), d6⟩, b4, b5, b6, b7, b8⟩
    show x.1 344 4 = if nI 0 = 0 then -1 else nI 0
    rw [if_pos (by decide), d3]
theorem Fstarts_eq {m : mD} : Fstarts m = Fsends 0 2 (Fdrafts (nI 42) (mStart m 0 25) (nI 0) (mStart m)) ∧ (Dsends 0 2 (Fdrafts (nI 42) (mStart m 0 25) (nI 0) (mStart m)) → Dstarts m) := by
  have e : (ab_up (ab_up m 0 23 (nI 1)) 0 24 (nI 0)) 0 25 = m 0 25 := rfl
  rw [Fstarts, Dstarts]
  dsimp only
  rw [e, mStart]
  exact ⟨rfl, fun h => ⟨Ddrafts_ok _ _ _ _, h, trivial⟩⟩
theorem FX1_startDriver_eq {x : xD} : FX1_startDriver (ab_up x.1 343 2 (nI 0), x.2) = xStart x := by
  have e : (ab_up (ab_up x.1 343 2 (nI 0)) 3 1 (nI 1)) 1 4 = x.1 1 4 := rfl
  rw [FX1_startDriver]
  dsimp only
  rw [e, xStart]
theorem dead_rel {x : xD} {m : mD} (h : RM x m) (hH : RH x m) (hR : RR x.1 m) (h5 : m 5 0 = -1) (htl : ¬ m 0 34 = 0) (hd : m 0 23 = 0) (hi : iDead m) : DX5_watchDead x ∧ Ddead m ∧ RM (FX5_watchDead x) (Fdead m) ∧ RH (FX5_watchDead x) (Fdead m) ∧ RR (FX5_watchDead x).1 (Fdead m) := by
  have k2 : x.1 343 1 = m 0 32 := hR.2.1.2.1
  have e32 : (ab_up m 0 32 (m 0 32 + nI 1)) 0 32 = m 0 32 + nI 1 := ab_up_eq
  have e1 : (ab_up x.1 343 1 (x.1 343 1 + nI 1)) 343 1 = m 0 32 + nI 1 := by rw [ab_up_eq, k2]
  have r1 : RM (ab_up x.1 343 1 (x.1 343 1 + nI 1), x.2) (ab_up m 0 32 (m 0 32 + nI 1)) := (h.xc (x' := (ab_up x.1 343 1 (x.1 343 1 + nI 1), x.2)) (fun _ _ _ _ => rfl) (fun p hp => ab_up_ne (by omega)) (fun p hp a j _ _ => ab_up_ne (by omega)) (fun p hp => rfl) rfl rfl rfl).mc (fun _ _ => rfl) (fun _ _ => rfl) (fun _ _ => rfl) (fun j hj => by rcases hj with rfl | rfl | rfl | rfl | rfl <;> rfl)
  have r2 : RH (ab_up x.1 343 1 (x.1 343 1 + nI 1), x.2) (ab_up m 0 32 (m 0 32 + nI 1)) := hH.fr (fun p hp j => ⟨ab_up_ne (by omega), ab_up_ne (by omega)⟩) (fun _ _ => rfl) (fun _ _ => rfl) rfl rfl
  have r3 : RR (ab_up x.1 343 1 (x.1 343 1 + nI 1)) (ab_up m 0 32 (m 0 32 + nI 1)) := by
    obtain ⟨b1, ⟨k1, k2', k3⟩, b3, b4, b5, b6, b7, b8⟩ := hR
    exact ⟨b1, ⟨k1, by show x.1 343 1 + nI 1 = m 0 32 + nI 1; rw [k2], k3⟩, b3, b4, b5, b6, b7, b8⟩
  obtain ⟨i1, i2, i3, i4, i5⟩ := hi hd
  have hc : (m 0 32 + nI 1 < nI 3 ∧ ¬ m 0 32 + nI 1 = nI 3) ∨ (¬ m 0 32 + nI 1 < nI 3 ∧ m 0 32 + nI 1 = nI 3) := by
    rcases i5 with e | e | e <;> rw [e] <;> decide
  have ew : FX5_watchDead x = if (ab_up x.1 343 1 (x.1 343 1 + nI 1)) 343 1 < nI 3 then (ab_up x.1 343 1 (x.1 343 1 + nI 1), x.2) else FX1_send (nI 0) (nI 2) (nI 42) ((xStart (ab_up x.1 343 1 (x.1 343 1 + nI 1), x.2)).1 1 4) (nI 0) (xStart (ab_up x.1 343 1 (x.1 343 1 + nI 1), x.2)) := by
    rw [FX5_watchDead, ← FX1_startDriver_eq]
  have ed : DX1_send (nI 0) (nI 2) (nI 42) ((xStart (ab_up x.1 343 1 (x.1 343 1 + nI 1), x.2)).1 1 4) (nI 0) (xStart (ab_up x.1 343 1 (x.1 343 1 + nI 1), x.2)) → ¬ (ab_up x.1 343 1 (x.1 343 1 + nI 1)) 343 1 < nI 3 → DX5_watchDead x := fun hD c => by
    rw [DX5_watchDead]
    rw [← FX1_startDriver_eq] at hD
    exact ⟨fun z => absurd z c, fun _ => ⟨hD, trivial⟩⟩
  rw [Fdead, Ddead, e32, ew]
  rcases hc with ⟨c1, c2⟩ | ⟨c1, c2⟩
  · have c1 : (ab_up x.1 343 1 (x.1 343 1 + nI 1)) 343 1 < nI 3 := by rw [e1]; exact c1
    rw [if_pos c1, if_neg c2]
    exact ⟨⟨fun _ => trivial, fun z => absurd c1 z⟩, fun z => absurd z c2, r1, r2, r3⟩
  · have c1 : ¬ (ab_up x.1 343 1 (x.1 343 1 + nI 1)) 343 1 < nI 3 := by rw [e1]; exact c1
    rw [if_neg c1, if_pos c2]
    obtain ⟨f1, f2⟩ := Fstarts_eq (m := ab_up m 0 32 (m 0 32 + nI 1))
    obtain ⟨s1, s2, s3⟩ := start_rel r1 r2 r3 ⟨i1, i2, i3, i4⟩
    have el : (xStart (ab_up x.1 343 1 (x.1 343 1 + nI 1), x.2)).1 1 4 = mStart (ab_up m 0 32 (m 0 32 + nI 1)) 0 25 := s1.2.2.2.1
    have q5 : mStart (ab_up m 0 32 (m 0 32 + nI 1)) 5 0 = -1 := h5
    have q23 : mStart (ab_up m 0 32 (m 0 32 + nI 1)) 0 23 = 0 ∨ mStart (ab_up m 0 32 (m 0 32 + nI 1)) 0 23 = 1 := Or.inr rfl
    have q34 : ¬ mStart (ab_up m 0 32 (m 0 32 + nI 1)) 0 34 = 0 := htl
    rw [f1, el]
    rw [el] at ed
    generalize mStart (ab_up m 0 32 (m 0 32 + nI 1)) = n at *
    generalize xStart (ab_up x.1 343 1 (x.1 343 1 + nI 1), x.2) = y at *
    obtain ⟨t1, t2, t3, t4, t5, t6⟩ := send_rel (f := 0) (t := 2) (k := nI 42) (a := n 0 25) (b := nI 0) s1 s2 (by decide) (by decide) q23 (by decide) (by decide) q5 q34
    exact ⟨ed t1 c1, fun _ => f2 t2, t3, t4, s3.send t5 t6⟩
