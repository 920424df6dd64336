/-! THE DRIVER's TURN, IV: it begins; the whole turn -/
theorem FX2_begin_66_eq {q : Nat} {x : xD} (hq : isX q 6) (hn : q + 1 ≠ 346) : FX2_begin_66 9 q 0 x = (fil x.1 346 0 8 (x.1 (q + 1)), x.2) ∧ DX2_begin_66 9 q 0 x := by
  have h := FX2_begin_66_l (c := x.1) (r := x.2) hq hn 9 0 (by omega) (by omega)
  rw [fil_0] at h
  exact h
theorem msg_lt {w : Nat} (h : isX w 6) : w < 343 ∧ 5 ≤ w := by
  rcases (isX_kinds w h.1).2 h.2 with rfl | z
  · exact ⟨by decide, by decide⟩
  · exact ⟨z.2.1, by omega⟩
theorem DX2_begin_ok {q : Nat} {x : xD} (hw : isX q 6) : DX2_begin q x := by
  have hn : q + 1 ≠ 346 := by have := msg_lt hw; omega
  have d := fun x : xD => (FX2_begin_66_eq (x := x) hw hn).2
  exact ⟨hw, fun _ => ⟨fun _ => trivial, fun _ => ⟨fun _ => ⟨fun _ => d _, fun _ => trivial⟩, fun _ => trivial⟩⟩, fun _ => ⟨fun _ => ⟨fun _ => trivial, fun _ => ⟨fun _ => ⟨fun _ => d _, fun _ => trivial⟩, fun _ => trivial⟩⟩, fun _ => trivial⟩⟩
theorem FX2_begin_20 {w B : Nat} {x : xD} (hw : isX w 6) (hB : B < 24) (h3 : x.1 w 3 = nI B) (h2 : x.1 w 2 = nI 20) : FX2_begin w x = (ab_up (ab_up x.1 344 4 (nI 20)) 344 5 (nI B), x.2) := by
  have hl := msg_lt hw
  have l0 : ¬ x.1 w 3 < 0 := by rw [h3]; exact nI_pos (by omega)
  have l1 : x.1 w 3 < nI 24 := by rw [h3]; exact nI_lt hB (by decide)
  have e3 : ab_up x.1 344 4 (nI 20) w 3 = nI B := by rw [ab_up_ne (by omega), h3]
  have e4 : ¬ ab_up (ab_up x.1 344 4 (nI 20)) 344 5 (nI B) 344 4 = nI 21 := by rw [ab_up_nj (by decide), ab_up_eq]; decide
  rw [FX2_begin, if_pos h2, if_neg l0, if_pos l1]
  refine (if_neg ?_).trans ?_
  · show ¬ ab_up (ab_up x.1 344 4 (x.1 w 2)) 344 5 (ab_up x.1 344 4 (x.1 w 2) w 3) 344 4 = nI 21
    rw [h2, e3]
    exact e4
  · show (ab_up (ab_up x.1 344 4 (x.1 w 2)) 344 5 (ab_up x.1 344 4 (x.1 w 2) w 3), x.2) = _
    rw [h2, e3]
theorem FX2_begin_21 {w B : Nat} {x : xD} (hw : isX w 6) (hB : B < 24) (h3 : x.1 w 3 = nI B) (h2 : x.1 w 2 = nI 21) : FX2_begin w x = (fil (ab_up (ab_up x.1 344 4 (nI 21)) 344 5 (nI B)) 346 0 8 (x.1 (w + 1)), x.2) := by
  have hl := msg_lt hw
  have l0 : ¬ x.1 w 3 < 0 := by rw [h3]; exact nI_pos (by omega)
  have l1 : x.1 w 3 < nI 24 := by rw [h3]; exact nI_lt hB (by decide)
  have n2 : ¬ x.1 w 2 = nI 20 := by rw [h2]; decide
  have e3 : ab_up x.1 344 4 (nI 21) w 3 = nI B := by rw [ab_up_ne (by omega), h3]
  have e4 : ab_up (ab_up x.1 344 4 (nI 21)) 344 5 (nI B) 344 4 = nI 21 := by rw [ab_up_nj (by decide), ab_up_eq]
  have e5 : (ab_up (ab_up x.1 344 4 (nI 21)) 344 5 (nI B)) (w + 1) = x.1 (w + 1) := by
    funext j
    rw [ab_up_ne (by omega), ab_up_ne (by omega)]
  rw [FX2_begin, if_neg n2, if_pos h2, if_neg l0, if_pos l1]
  refine (if_pos ?_).trans ?_
  · show ab_up (ab_up x.1 344 4 (x.1 w 2)) 344 5 (ab_up x.1 344 4 (x.1 w 2) w 3) 344 4 = nI 21
    rw [h2, e3]
    exact e4
  · show FX2_begin_66 9 w 0 (ab_up (ab_up x.1 344 4 (x.1 w 2)) 344 5 (ab_up x.1 344 4 (x.1 w 2) w 3), x.2) = _
    rw [h2, e3, (FX2_begin_66_eq hw (by omega)).1]
    dsimp only
    rw [e5]
theorem FX2_begin_no {w : Nat} {x : xD} (h1 : ¬ x.1 w 2 = nI 20) (h2 : ¬ x.1 w 2 = nI 21) : FX2_begin w x = x := by
  rw [FX2_begin, if_neg h1, if_neg h2]
theorem begin_rel {x : xD} {m : mD} {w : Nat} (h : RM x m) (hH : RH x m) (hR : RR x.1 m) (hw : isX w 6) (he : eqM (m 0 40) x.1 w (m 6)) (hb : (m 6 1 = nI 20 ∨ m 6 1 = nI 21) → ∃ B, B < 24 ∧ m 6 2 = nI B) : R3 (FX2_begin w x) (Fbeg m) := by
  obtain ⟨e1, e2, e3, -, -, e6⟩ := he
  obtain ⟨b1, b2, b3, b4, b5, b6, b7, b8⟩ := hR
  have b3' : x.1 344 2 = m 0 24 ∧ x.1 344 3 = m 0 26 ∧ x.1 344 4 = (if m 0 27 = 0 then -1 else m 0 27) ∧ (¬ m 0 27 = 0 → x.1 344 5 = m 0 28) ∧ (m 0 27 = 21 → ∀ i, i < 8 → x.1 346 i = m 21 i) ∧ ∀ i, i < 192 → x.1 345 i = m 20 i := b3
  obtain ⟨d1, d2, -, -, -, d6⟩ := b3'
  by_cases k1 : m 6 1 = nI 20
  · obtain ⟨B, hB, h2⟩ := hb (Or.inl k1)
    rw [Fbeg_yes (Or.inl k1), FX2_begin_20 hw hB (e3.trans h2) (e2.trans k1), k1, h2]
    have mo : ∀ a j, ¬ (a = 0 ∧ (j = 27 ∨ j = 28)) → ¬ a = 21 → fil (ab_up (ab_up m 0 27 (nI 20)) 0 28 (nI B)) 21 0 8 (fun i => m 6 (5 + i)) a j = m a j := fun a j h0 h21 => by rw [fil_q h21, ab_up_na (by omega), ab_up_na (by omega)]
    obtain ⟨r1, r2⟩ := RMH.rest (x' := (ab_up (ab_up x.1 344 4 (nI 20)) 344 5 (nI B), x.2)) (m' := fil (ab_up (ab_up m 0 27 (nI 20)) 0 28 (nI B)) 21 0 8 (fun i => m 6 (5 + i))) h hH rfl (fun a j _ ha => by show ab_up _ _ _ _ _ _ = _; rw [ab_up_ne (by omega), ab_up_ne (by omega)]) (fun a j ha => mo a j (by omega) (by omega)) (fun j hj => mo 0 j (by omega) (by omega))
    refine ⟨r1, r2, b1, b2, ?_, b4, b5, b6, b7, b8⟩
    show x.1 344 2 = m 0 24 ∧ x.1 344 3 = m 0 26 ∧ nI 20 = (if nI 20 = 0 then -1 else nI 20) ∧ (¬ nI 20 = 0 → nI B = nI B) ∧ (nI 20 = 21 → ∀ i, i < 8 → x.1 346 i = fil (ab_up (ab_up m 0 27 (nI 20)) 0 28 (nI B)) 21 0 8 (fun i => m 6 (5 + i)) 21 i) ∧ ∀ i, i < 192 → x.1 345 i = m 20 i
    exact ⟨d1, d2, (if_neg (by decide)).symm, fun _ => rfl, fun z => absurd z (by decide), d6⟩
  · by_cases k2 : m 6 1 = nI 21
    · obtain ⟨B, hB, h2⟩ := hb (Or.inr k2)
      rw [Fbeg_yes (Or.inr k2), FX2_begin_21 hw hB (e3.trans h2) (e2.trans k2), k2, h2]
      have mo : ∀ a j, ¬ (a = 0 ∧ (j = 27 ∨ j = 28)) → ¬ a = 21 → fil (ab_up (ab_up m 0 27 (nI 21)) 0 28 (nI B)) 21 0 8 (fun i => m 6 (5 + i)) a j = m a j := fun a j h0 h21 => by rw [fil_q h21, ab_up_na (by omega), ab_up_na (by omega)]
      obtain ⟨r1, r2⟩ := RMH.rest (x' := (fil (ab_up (ab_up x.1 344 4 (nI 21)) 344 5 (nI B)) 346 0 8 (x.1 (w + 1)), x.2)) (m' := fil (ab_up (ab_up m 0 27 (nI 21)) 0 28 (nI B)) 21 0 8 (fun i => m 6 (5 + i))) h hH rfl (fun a j _ ha => by show fil _ _ _ _ _ _ _ = _; rw [fil_q (by omega), ab_up_ne (by omega), ab_up_ne (by omega)]) (fun a j ha => mo a j (by omega) (by omega)) (fun j hj => mo 0 j (by omega) (by omega))
      refine ⟨r1, r2, b1, b2, ?_, b4, b5, b6, b7, b8⟩
      show x.1 344 2 = m 0 24 ∧ x.1 344 3 = m 0 26 ∧ nI 21 = (if nI 21 = 0 then -1 else nI 21) ∧ (¬ nI 21 = 0 → nI B = nI B) ∧ (nI 21 = 21 → ∀ i, i < 8 → fil (ab_up (ab_up x.1 344 4 (nI 21)) 344 5 (nI B)) 346 0 8 (x.1 (w + 1)) 346 i = fil (ab_up (ab_up m 0 27 (nI 21)) 0 28 (nI B)) 21 0 8 (fun i => m 6 (5 + i)) 21 i) ∧ ∀ i, i < 192 → x.1 345 i = m 20 i
      refine ⟨d1, d2, (if_neg (by decide)).symm, fun _ => rfl, fun _ i hi => ?_, d6⟩
      rw [fil_in (by omega) (by omega), fil_in (by omega) (by omega)]
      exact e6 (Or.inl k2) i hi
    · rw [Fbeg_no (fun z => z.elim k1 k2), FX2_begin_no (by rw [e2]; exact k1) (by rw [e2]; exact k2)]
      exact ⟨h, hH, b1, b2, b3, b4, b5, b6, b7, b8⟩
/-- what the driver's turn wants of the reference's state -/
def iDri (m : mD) : Prop := (m 0 27 = 0 ∨ ((m 0 27 = nI 20 ∨ (m 0 27 = nI 21 ∧ m 0 40 = nI 21)) ∧ ∃ B, B < 24 ∧ m 0 28 = nI B)) ∧ ∀ k M, M ≤ 12 → m 2 1 = nI M → k < M → (m 1 (13 * (12 * 1 + k) + 1) = nI 20 ∨ m 1 (13 * (12 * 1 + k) + 1) = nI 21) → ∃ B, B < 24 ∧ m 1 (13 * (12 * 1 + k) + 2) = nI B
theorem mTake_6 {p k : Nat} {m : mD} {i : Nat} (hi : i < 13) : mTake p k m 6 i = m 1 (13 * (12 * p + k) + i) := by
  rw [mTake, mDrop, ab_up_ne (by decide), fil_q (by decide), fil_in (by omega) (by omega), Nat.sub_zero]
theorem driver_rel {x : xD} {m : mD} (h : RM x m) (hH : RH x m) (hR : RR x.1 m) (h5 : m 5 1 = -1) (htl : ¬ m 0 34 = 0) (hd : m 0 23 = 0 ∨ m 0 23 = 1) (hi : iDri m) : DX2_takeTurn x ∧ Ddriver_18 13 0 m ∧ R3 (FX2_takeTurn x) (Fdriver_18 13 0 m) := by
  obtain ⟨M, hM, e1, e2, e3⟩ := h.2.1 1 (by decide)
  have hcM : (nI M).toNatClampNeg = M := nI_clamp (by omega)
  obtain ⟨f, hf, f1, f2⟩ := first_ex (fun j => m 1 (13 * (12 * 1 + j) + 1) = nI 40) M
  have ek : ∀ k, k < M → x.1 (xm x 1 k) 2 = m 1 (13 * (12 * 1 + k) + 1) := fun k hk => (e3 k hk).2.1
  obtain ⟨q1, q2⟩ := FX0_firstOf_l (w := nI 40) (by decide) h.1 hM e2 hf (fun j hj => by rw [ek j (by omega)]; exact f1 j hj) (fun hj => by rw [ek f hj]; exact f2 hj) 13 0 (by omega) (by omega)
  have q1 : FX0_firstOf 35 (nI 40) x = (if f < M then nI f else -1) := q1
  have q2 : DX0_firstOf 35 (nI 40) x := q2
  by_cases hfM : f < M
  · obtain ⟨t1, t2⟩ := FX0_take_eq (p := 1) (k := f) (by decide) h.1 hfM hM e2
    obtain ⟨o1, o2⟩ := Fdrop_eq (p := 1) (by decide) e1 hfM hM
    obtain ⟨r1, r2, r3⟩ := drop_rel (p := 1) h hH hR (by decide) hfM hM e1
    obtain ⟨s1, s2, s3, s4, s5, s6⟩ := send_rel (f := 1) (t := 0) (k := nI 41) (a := nI 0) (b := nI 0) r1 r2 (by decide) (by decide) (by rw [mDrop_o (by decide) (by decide)]; exact hd) (by decide) (by decide) (by rw [mDrop_o (by decide) (by decide)]; exact h5) (by rw [mDrop_o (by decide) (by decide)]; exact htl)
    rw [← o1] at s2 s3 s4 s6 r3
    obtain ⟨g1, g2⟩ := Fdriver_18_l hM e1 hf f1 f2 (fun _ => ⟨o2, s2⟩) (fun z => absurd hfM z) 13 0 (by omega) (by omega)
    rw [if_pos hfM] at q1 g1
    have t1 : FX0_take 35 (nI f) x = (some (xm x 1 f), xTake 1 f M x) := t1
    have t2 : DX0_take 35 (nI f) x := t2
    have ex : FX2_takeTurn x = FX1_send (nI 1) (nI 0) (nI 41) (nI 0) (nI 0) (xTake 1 f M x) := by
      rw [FX2_takeTurn, q1, t1]
      dsimp only
      rw [ab_o_s rfl]
    have dx : DX2_takeTurn x := by
      rw [DX2_takeTurn, q1, t1]
      dsimp only
      exact ⟨q2, t2, fun z => absurd z (by simp), fun _ _ => ⟨s1, trivial⟩⟩
    rw [ex, g1]
    exact ⟨dx, g2, s3, s4, r3.send s5 s6⟩
  · obtain ⟨t1, t2⟩ := FX0_take_no (p := 1) (i := -1) (x := x) (by decide) (Or.inl (by decide))
    have t1 : FX0_take 35 (-1) x = (none, x) := t1
    have t2 : DX0_take 35 (-1) x := t2
    rw [if_neg hfM] at q1
    have b3' : x.1 344 2 = m 0 24 ∧ x.1 344 3 = m 0 26 ∧ x.1 344 4 = (if m 0 27 = 0 then -1 else m 0 27) ∧ (¬ m 0 27 = 0 → x.1 344 5 = m 0 28) ∧ (m 0 27 = 21 → ∀ i, i < 8 → x.1 346 i = m 21 i) ∧ ∀ i, i < 192 → x.1 345 i = m 20 i := hR.2.2.1
    have d3 := b3'.2.2.1
    have core : Ddr0 m ∧ (x.1 344 4 = -1 → DX0_take 35 (nI 0) x ∧ (∀ w : Nat, (FX0_take 35 (nI 0) x).1 = some w → isX w 6)) ∧ (¬ x.1 344 4 = -1 → DX2_work x) ∧ R3 (if x.1 344 4 = -1 then ab_o (FX0_take 35 (nI 0) x).1 (FX2_begin_n (FX0_take 35 (nI 0) x).2) (fun w => FX2_begin w (FX0_take 35 (nI 0) x).2) else FX2_work x) (Fdr0 m) := by
      rcases hi.1 with j0 | ⟨j1, B, hB, h28⟩
      · rw [if_pos j0] at d3
        have j0' : m 0 27 ≤ 0 := by rw [j0]; decide
        rw [if_pos d3, Fdr0, if_pos j0', e1, hcM]
        by_cases h0 : M = 0
        · subst h0
          obtain ⟨u1, u2⟩ := FX0_take_no (x := x) (p := 1) (i := nI 0) (by decide) (Or.inr (by rw [e2]; decide))
          have u1 : FX0_take 35 (nI 0) x = (none, x) := u1
          have u2 : DX0_take 35 (nI 0) x := u2
          rw [if_pos (by decide), u1, ab_o_n rfl]
          refine ⟨⟨fun _ z => absurd (by rw [e1, hcM]; decide) z, fun z => absurd j0' z⟩, fun _ => ⟨u2, fun w hw => by cases hw⟩, fun z => absurd d3 z, h, hH, hR⟩
        · obtain ⟨u1, u2⟩ := FX0_take_eq (p := 1) (k := 0) (by decide) h.1 (by omega) hM e2
          have u1 : FX0_take 35 (nI 0) x = (some (xm x 1 0), xTake 1 0 M x) := u1
          have u2 : DX0_take 35 (nI 0) x := u2
          obtain ⟨o1, o2⟩ := FtakeOut_eq (p := 1) (k := 0) (by decide) e1 (by omega) hM
          obtain ⟨r1, r2, r3, r4⟩ := take_rel (p := 1) (k := 0) h hH hR (by decide) (by omega) hM e1
          have hw : isX (xm x 1 0) 6 := isX_xm h.1 (by decide) (by decide)
          have h40 : mTake 1 0 m 0 40 = m 0 40 := mTake_o (by decide) (by decide) (by decide)
          have rb := begin_rel r1 r2 r3 hw (by rw [h40]; exact r4) (by
            rw [mTake_6 (by decide), mTake_6 (by decide)]
            exact hi.2 0 M hM e1 (by omega))
          have hnle : ¬ nI M ≤ 0 := nI_nle (by omega) (by omega)
          rw [if_neg hnle, u1, ab_o_s rfl, o1]
          refine ⟨⟨fun _ _ => o2, fun z => absurd j0' z⟩, fun _ => ⟨u2, fun w hw0 => ?_⟩, fun z => absurd d3 z, rb⟩
          cases hw0
          exact hw
      · have j0 : ¬ m 0 27 = 0 := by
          rcases j1 with z | z
          · rw [z]; decide
          · rw [z.1]; decide
        have j0' : ¬ m 0 27 ≤ 0 := by
          rcases j1 with z | z
          · rw [z]; decide
          · rw [z.1]; decide
        rw [if_neg j0] at d3
        have d3' : ¬ x.1 344 4 = -1 := by
          rw [d3]
          rcases j1 with z | z
          · rw [z]; decide
          · rw [z.1]; decide
        obtain ⟨w1, w2, w3⟩ := work_rel h hH hR h5 htl hd hB h28 j1
        rw [if_neg d3', Fdr0, if_neg j0']
        exact ⟨⟨fun z => absurd z j0', fun _ => w2⟩, fun z => absurd z d3', fun _ => w1, w3⟩
    obtain ⟨c1, c2, c3, c4⟩ := core
    obtain ⟨g1, g2⟩ := Fdriver_18_l hM e1 hf f1 f2 (fun z => absurd z hfM) (fun _ => c1) 13 0 (by omega) (by omega)
    rw [if_neg hfM] at g1
    have ex : FX2_takeTurn x = (if x.1 344 4 = -1 then ab_o (FX0_take 35 (nI 0) x).1 (FX2_begin_n (FX0_take 35 (nI 0) x).2) (fun w => FX2_begin w (FX0_take 35 (nI 0) x).2) else FX2_work x) := by
      rw [FX2_takeTurn, q1, t1]
      dsimp only
      rw [ab_o_n rfl]
    have dx : DX2_takeTurn x := by
      rw [DX2_takeTurn, q1, t1]
      dsimp only
      exact ⟨q2, t2, fun _ => ⟨fun z => ⟨(c2 z).1, fun _ => trivial, fun w hw => ⟨DX2_begin_ok ((c2 z).2 w hw), trivial⟩⟩, fun z => ⟨c3 z, trivial⟩⟩, fun w hw => by cases hw⟩
    rw [ex, g1]
    exact ⟨dx, g2, c4⟩
/-- class side: the driver's turn as giveTurn gives it (it lives) -/
def FXdri (x : xD) : xD := if x.1 344 2 = 0 then (if (FX1_sendHeld (nI 1) x).1 = 0 then FX2_takeTurn (FX1_sendHeld (nI 1) x).2 else (FX1_sendHeld (nI 1) x).2) else x
theorem driver_turn {x : xD} {m : mD} (h : RM x m) (hH : RH x m) (hR : RR x.1 m) (htl : ¬ m 0 34 = 0) (hd : m 0 23 = 0 ∨ m 0 23 = 1) (hi : iDri m) : DX1_sendHeld (nI 1) x ∧ ((FX1_sendHeld (nI 1) x).1 = 0 → DX2_takeTurn (FX1_sendHeld (nI 1) x).2) ∧ Ddriver m ∧ R3 (FXdri x) (Fdriver m) := by
  have d1 : x.1 344 2 = m 0 24 := hR.2.2.1.1
  obtain ⟨h1, h2, hc⟩ := held_rel (p := 1) h hH (by decide) hd htl
  rcases hc with ⟨c1, c2, c3⟩ | ⟨x', m', c1, c2, c3, c4, c5, c6, c7⟩
  · obtain ⟨g1, g2, g3⟩ := driver_rel h hH hR c1 htl hd hi
    rw [FXdri, Fdriver, c2, c3, d1]
    dsimp only
    rw [if_pos nI00, if_pos nI00]
    refine ⟨h1, fun _ => g1, ?_, ?_⟩
    · rw [Ddriver, c3]
      exact ⟨fun _ => ⟨h2, fun _ => g2, fun _ => trivial⟩, fun _ => trivial⟩
    · by_cases hh : m 0 24 = 0
      · rw [if_pos hh, if_pos hh]
        exact g3
      · rw [if_neg hh, if_neg hh]
        exact ⟨h, hH, hR⟩
  · rw [FXdri, Fdriver, c2, c3, d1]
    dsimp only
    rw [if_neg nI10, if_neg nI10]
    refine ⟨h1, fun z => absurd z nI10, ?_, ?_⟩
    · rw [Ddriver, c3]
      exact ⟨fun _ => ⟨h2, fun z => absurd z nI10, fun _ => trivial⟩, fun _ => trivial⟩
    · by_cases hh : m 0 24 = 0
      · rw [if_pos hh, if_pos hh]
        exact ⟨c4, c5, hR.send c6 c7⟩
      · rw [if_neg hh, if_neg hh]
        exact ⟨h, hH, hR⟩
