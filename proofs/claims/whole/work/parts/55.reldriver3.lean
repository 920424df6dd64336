/-! THE DRIVER's TURN, III: class against reference -/
theorem RMH.rest {x x' : xD} {m m' : mD} (h : RM x m) (hH : RH x m) (hr : x'.2 = x.2) (h1 : ∀ a j, ¬ a = 0 → a < 343 → x'.1 a j = x.1 a j) (h2 : ∀ a j, a = 1 ∨ a = 2 ∨ a = 4 ∨ a = 5 ∨ a = 7 → m' a j = m a j) (h0 : ∀ j, j = 6 ∨ j = 7 ∨ j = 23 ∨ j = 25 ∨ j = 34 ∨ j = 40 → m' 0 j = m 0 j) : RM x' m' ∧ RH x' m' :=
  ⟨(h.xc (fun p _ k _ => by rw [hr]) (fun p hp => h1 (7 + 28 * p) 1 (by omega) (by omega)) (fun p hp a j _ _ => h1 a j (by omega) (by omega)) (fun p hp => h1 3 p (by omega) (by omega)) (h1 1 4 (by omega) (by omega)) (h1 1 5 (by omega) (by omega)) (h1 1 6 (by omega) (by omega))).mc (fun i _ => h2 1 i (by omega)) (fun p _ => h2 2 p (by omega)) (fun p _ => h2 7 p (by omega)) (fun j hj => h0 j (by omega)),
   hH.fr (fun p hp j => ⟨h1 (33 + 28 * p) j (by omega) (by omega), h1 (33 + 28 * p + 1) j (by omega) (by omega)⟩) (fun p _ => h2 5 p (by omega)) (fun i _ => h2 4 i (by omega)) (h0 40 (by omega)) (h0 34 (by omega))⟩
theorem xD22_o {G : Nat} {c : mD} {a j : Nat} (h1 : ¬ a = 61) (h2 : ¬ a = 62) (h3 : ¬ (a = 344 ∧ j = 4)) : xD22 G c a j = c a j := by
  rw [xD22, fil_q (by omega), xW_o (by omega), ab_up_na h3]
theorem send22_rel {G : Nat} {c : mD} {r : Nat → Nat → Nat} {n : mD} (h : RM (c, r) n) (hH : RH (c, r) n) (hR : RR (ab_up c 344 4 (-1)) n) (h5 : n 5 1 = -1) (htl : ¬ n 0 34 = 0) (hd : n 0 23 = 0 ∨ n 0 23 = 1) (k1 : n 3 1 = nI 22) (k2 : n 3 2 = 0) (k3 : n 3 3 = 0) (k4 : n 3 4 = 0) (hn : n 0 40 = 20 → ∀ i, i < 8 → c 345 (G + i) = n 3 (5 + i)) :
    DX1_post (33 + 28 * 1) (nI 2) (xD22 G c, r) ∧ Dsends 1 2 n ∧ R3 (FX1_post (33 + 28 * 1) (nI 2) (xD22 G c, r)).2 (Fsends 1 2 n) := by
  have o : ∀ a j, ¬ a = 61 → ¬ a = 62 → ¬ (a = 344 ∧ j = 4) → xD22 G c a j = c a j := fun a j => xD22_o
  obtain ⟨w1, w2, w3, w4, w5, w6, w7⟩ := xW_s (s := 33 + 28 * 1) (f := nI 1) (k := nI 22) (a := nI 0) (b := nI 0) (c := ab_up c 344 4 (-1))
  have y : ∀ j, xD22 G c 61 j = xW (33 + 28 * 1) (nI 1) (nI 22) (nI 0) (nI 0) (ab_up c 344 4 (-1)) 61 j := fun j => by rw [xD22, fil_q (by decide)]
  have yn : ∀ i, i < 8 → xD22 G c 62 i = c 345 (G + i) := fun i hi => by
    rw [xD22]
    have := fil_in (m := xW (33 + 28 * 1) (nI 1) (nI 22) (nI 0) (nI 0) (ab_up c 344 4 (-1))) (q := 33 + 28 * 1 + 1) (lo := 0) (n := 8) (j := i) (g := fun i => c 345 (G + i)) (by omega) (by omega)
    exact this
  have RMy : RM (xD22 G c, r) n := h.xc (fun _ _ _ _ => rfl) (fun p hp => o (7 + 28 * p) 1 (by omega) (by omega) (by omega)) (fun p hp a j _ _ => o a j (by omega) (by omega) (by omega)) (fun p hp => o 3 p (by omega) (by omega) (by omega)) (o 1 4 (by omega) (by omega) (by omega)) (o 1 5 (by omega) (by omega) (by omega)) (o 1 6 (by omega) (by omega) (by omega))
  obtain ⟨c1, c2, c3, c4, c5, c6⟩ := sends_core (y := (xD22 G c, r)) (n := n) (f := 1) (t := 2) RMy
    (fun p hp hpf => (hH p hp).congr (fun j => o (33 + 28 * p) j (by omega) (by omega) (by omega)) (fun j => o (33 + 28 * p + 1) j (by omega) (by omega) (by omega)) rfl (fun _ _ => rfl) rfl rfl) (by decide) (by decide) hd ((y 1).trans w1)
    (by
      refine ⟨(y 1).trans w1, ?_, ?_, ?_, ?_, ?_⟩
      · exact ((y 2).trans w2).trans k1.symm
      · exact ((y 3).trans w3).trans k2.symm
      · exact ((y 4).trans w4).trans k3.symm
      · exact ((y 5).trans w5).trans k4.symm
      · intro hz i hi
        have hz2 : n 3 1 = 21 ∨ n 3 1 = 22 ∧ n 0 40 = 20 := hz
        have hf : n 0 40 = 20 := by
          rcases hz2 with z | z
          · rw [k1] at z; exact absurd z (by decide)
          · exact z.2
        have e : (if 5 + i = 0 then nI 1 else n 3 (5 + i)) = n 3 (5 + i) := if_neg (by omega)
        exact ((yn i hi).trans (hn hf i hi)).trans e.symm)
    ((y 7).trans w7) h5 (((y 6).trans w6).trans (if_neg (by decide)).symm) htl
  refine ⟨c1, c2, c3, c4, ?_⟩
  have R1 : RR (xD22 G c) n := hR.fr (fun a j ha => by rw [xD22, fil_q (by omega), xW_o (by omega)]) (fun _ _ _ => rfl)
  exact RR.send (x := (xD22 G c, r)) R1 c5 c6
theorem work_rel {x : xD} {m : mD} {B : Nat} (h : RM x m) (hH : RH x m) (hR : RR x.1 m) (h5 : m 5 1 = -1) (htl : ¬ m 0 34 = 0) (hd : m 0 23 = 0 ∨ m 0 23 = 1) (hB : B < 24) (h28 : m 0 28 = nI B) (hj : m 0 27 = nI 20 ∨ m 0 27 = nI 21 ∧ m 0 40 = nI 21) : DX2_work x ∧ Dworks m ∧ R3 (FX2_work x) (Fworks m) := by
  have hc : (nI B).toNatClampNeg = B := nI_clamp (by omega)
  obtain ⟨b1, b2, b3, b4, b5, b6, b7, b8⟩ := hR
  have b3' : x.1 344 2 = m 0 24 ∧ x.1 344 3 = m 0 26 ∧ x.1 344 4 = (if m 0 27 = 0 then -1 else m 0 27) ∧ (¬ m 0 27 = 0 → x.1 344 5 = m 0 28) ∧ (m 0 27 = 21 → ∀ i, i < 8 → x.1 346 i = m 21 i) ∧ ∀ i, i < 192 → x.1 345 i = m 20 i := b3
  obtain ⟨d1, d2, d3, d4, d5, d6⟩ := b3'
  have j0 : ¬ m 0 27 = 0 := by
    rcases hj with z | z
    · rw [z]; decide
    · rw [z.1]; decide
  rw [if_neg j0] at d3
  have d4 := (d4 j0).trans h28
  by_cases ha : m 0 26 = nI B
  · have hx3 : x.1 344 3 = x.1 344 5 := by rw [d2, d4, ha]
    have hm3 : m 0 26 = nI ((m 0 28).toNatClampNeg) := by rw [h28, hc, ha]
    have ek : x.1 344 5 * nI 8 = nI (8 * B) := by rw [d4, pk_mul, Nat.mul_comm]
    rcases hj with hj | ⟨hj, h40⟩
    · have R0 := RMH.rest (x' := (x.1, x.2)) (m' := mD20 B m) h hH rfl (fun _ _ _ _ => rfl) (fun a j ha => by rw [mD20, ab_up_ne (by omega), fil_q (by omega), mDr_q (by omega)]) (fun j hj => by rw [mD20, ab_up_nj (by omega), fil_q (by omega), mDr_q (by omega)])
      have m3 : ∀ j, j < 5 → mD20 B m 3 j = mDr (nI 22) (nI 0) (nI 0) m 3 j := fun j hj => by rw [mD20, ab_up_ne (by decide), fil_out (by omega)]
      have mo : ∀ a j, a ≠ 3 → ¬ (a = 0 ∧ j = 27) → mD20 B m a j = m a j := fun a j h3 h27 => by rw [mD20, ab_up_na h27, fil_q h3, mDr_q h3]
      have RRn : RR (ab_up x.1 344 4 (-1)) (mD20 B m) := by
        refine ⟨b1, b2, ?_, b4, b5, b6, b7, b8⟩
        show x.1 344 2 = m 0 24 ∧ x.1 344 3 = m 0 26 ∧ (-1 : Int32) = (if nI 0 = 0 then -1 else nI 0) ∧ (¬ nI 0 = 0 → x.1 344 5 = m 0 28) ∧ (nI 0 = 21 → ∀ i, i < 8 → x.1 346 i = m 21 i) ∧ ∀ i, i < 192 → x.1 345 i = m 20 i
        exact ⟨d1, d2, (if_pos nI00).symm, fun z => absurd nI00 z, fun z => absurd z (by decide), d6⟩
      obtain ⟨s1, s2, s3⟩ := send22_rel (G := 8 * B) (c := x.1) (r := x.2) (n := mD20 B m) R0.1 R0.2 RRn (by rw [mo 5 1 (by decide) (by decide)]; exact h5) (by rw [mo 0 34 (by decide) (by decide)]; exact htl) (by rw [mo 0 23 (by decide) (by decide)]; exact hd) (by rw [m3 1 (by decide), mDr_3 (by decide)]; rfl) (by rw [m3 2 (by decide), mDr_3 (by decide)]; rfl) (by rw [m3 3 (by decide), mDr_3 (by decide)]; rfl) (by rw [m3 4 (by decide), mDr_3 (by decide)]; rfl)
        (fun _ i hi => by
          have e1 : mD20 B m 3 (5 + i) = m 20 (8 * B + i) := by rw [mD20, ab_up_ne (by decide), fil_in (by omega) (by omega), Nat.add_sub_cancel_left]
          rw [e1]
          exact d6 _ (by omega))
      obtain ⟨e1, e2⟩ := send22_eq (G := 8 * B) (c := x.1) (r := x.2) (by omega) s1
      have f1 := Fworks_47_20 hB hj h28 s2 9 0 (by omega) (by omega)
      rw [fil_0] at f1
      have k21 : ¬ x.1 344 4 = nI 21 := by rw [d3, hj]; decide
      have ex : FX2_work x = (FX1_post (33 + 28 * 1) (nI 2) (xD22 (8 * B) x.1, x.2)).2 := by
        rw [FX2_work, if_pos hx3, if_neg k21, ek]
        exact e1
      have em : Fworks m = Fsends 1 2 (mD20 B m) := by
        rw [Fworks, if_pos hm3, Fdrafts_eq]
        exact f1.1
      rw [ex, em]
      refine ⟨⟨fun _ => ⟨fun z => absurd z k21, fun _ => ?_⟩, fun z => absurd hx3 z⟩, ⟨by rw [h28]; exact nI_pos (by omega), fun _ => ⟨Ddrafts_ok _ _ _ _, ?_⟩, fun z => absurd hm3 z⟩, s3⟩
      · rw [ek]
        exact e2
      · rw [Fdrafts_eq]
        exact f1.2
    · have m3 : ∀ j, mD21 B m 3 j = mDr (nI 22) (nI 0) (nI 0) m 3 j := fun j => by rw [mD21, ab_up_ne (by decide), fil_q (by decide)]
      have mo : ∀ a j, a ≠ 3 → a ≠ 20 → ¬ (a = 0 ∧ j = 27) → mD21 B m a j = m a j := fun a j h3 h20 h27 => by rw [mD21, ab_up_na h27, fil_q h20, mDr_q h3]
      have R0 := RMH.rest (x' := (fil x.1 345 (8 * B) 8 (x.1 346), x.2)) (m' := mD21 B m) h hH rfl (fun a j _ ha => fil_q (by omega)) (fun a j ha => mo a j (by omega) (by omega) (by omega)) (fun j hj => mo 0 j (by omega) (by omega) (by omega))
      have RRn : RR (ab_up (fil x.1 345 (8 * B) 8 (x.1 346)) 344 4 (-1)) (mD21 B m) := by
        refine ⟨b1, b2, ?_, b4, b5, b6, b7, b8⟩
        show x.1 344 2 = m 0 24 ∧ x.1 344 3 = m 0 26 ∧ (-1 : Int32) = (if nI 0 = 0 then -1 else nI 0) ∧ (¬ nI 0 = 0 → x.1 344 5 = m 0 28) ∧ (nI 0 = 21 → ∀ i, i < 8 → x.1 346 i = m 21 i) ∧ ∀ i, i < 192 → fil x.1 345 (8 * B) 8 (x.1 346) 345 i = fil (mDr (nI 22) (nI 0) (nI 0) m) 20 (8 * B) 8 (m 21) 20 i
        refine ⟨d1, d2, (if_pos nI00).symm, fun z => absurd nI00 z, fun z => absurd z (by decide), fun i hi => ?_⟩
        by_cases hr : 8 * B ≤ i ∧ i < 8 * B + 8
        · rw [fil_in hr.1 hr.2, fil_in hr.1 hr.2]
          exact d5 (by rw [hj]; rfl) _ (by omega)
        · rw [fil_out (by omega), fil_out (by omega), mDr_q (by decide)]
          exact d6 i hi
      obtain ⟨s1, s2, s3⟩ := send22_rel (G := 8 * B) (c := fil x.1 345 (8 * B) 8 (x.1 346)) (r := x.2) (n := mD21 B m) R0.1 R0.2 RRn (by rw [mo 5 1 (by decide) (by decide) (by decide)]; exact h5) (by rw [mo 0 34 (by decide) (by decide) (by decide)]; exact htl) (by rw [mo 0 23 (by decide) (by decide) (by decide)]; exact hd) (by rw [m3 1, mDr_3 (by decide)]; rfl) (by rw [m3 2, mDr_3 (by decide)]; rfl) (by rw [m3 3, mDr_3 (by decide)]; rfl) (by rw [m3 4, mDr_3 (by decide)]; rfl)
        (fun z => by rw [mo 0 40 (by decide) (by decide) (by decide), h40] at z; exact absurd z (by decide))
      have w1 := FX2_work_56_l (G := 8 * B) (c := x.1) (r := x.2) (by omega) s1 9 0 (by omega) (by omega)
      rw [fil_0] at w1
      have f1 := Fworks_47_21 hB hj h28 s2 9 0 (by omega) (by omega)
      rw [fil_0] at f1
      have k21 : x.1 344 4 = nI 21 := by rw [d3, hj]
      have ex : FX2_work x = (FX1_post (33 + 28 * 1) (nI 2) (xD22 (8 * B) (fil x.1 345 (8 * B) 8 (x.1 346)), x.2)).2 := by
        rw [FX2_work, if_pos hx3, if_pos k21, ek]
        exact w1.1
      have em : Fworks m = Fsends 1 2 (mD21 B m) := by
        rw [Fworks, if_pos hm3, Fdrafts_eq]
        exact f1.1
      rw [ex, em]
      refine ⟨⟨fun _ => ⟨fun _ => ?_, fun z => absurd k21 z⟩, fun z => absurd hx3 z⟩, ⟨by rw [h28]; exact nI_pos (by omega), fun _ => ⟨Ddrafts_ok _ _ _ _, ?_⟩, fun z => absurd hm3 z⟩, s3⟩
      · rw [ek]
        exact w1.2
      · rw [Fdrafts_eq]
        exact f1.2
  · have hx3 : ¬ x.1 344 3 = x.1 344 5 := by rw [d2, d4]; exact ha
    have hm3 : ¬ m 0 26 = nI ((m 0 28).toNatClampNeg) := by rw [h28, hc]; exact ha
    have hp28 : ¬ m 0 28 < 0 := by rw [h28]; exact nI_pos (by omega)
    refine ⟨⟨fun z => absurd z hx3, fun _ => trivial⟩, ⟨hp28, fun z => absurd z hm3, fun _ => ⟨hp28, trivial⟩⟩, ?_⟩
    have go : ∀ v : Int32, R3 (ab_up x.1 344 3 v, x.2) (ab_up m 0 26 v) := by
      intro v
      obtain ⟨r1, r2⟩ := RMH.rest (x' := (ab_up x.1 344 3 v, x.2)) (m' := ab_up m 0 26 v) h hH rfl (fun a j _ ha => ab_up_ne (by omega)) (fun a j ha => ab_up_ne (by omega)) (fun j hj => ab_up_nj (by omega))
      refine ⟨r1, r2, b1, b2, ?_, b4, b5, b6, b7, b8⟩
      show x.1 344 2 = m 0 24 ∧ v = v ∧ x.1 344 4 = (if m 0 27 = 0 then -1 else m 0 27) ∧ (¬ m 0 27 = 0 → x.1 344 5 = m 0 28) ∧ (m 0 27 = 21 → ∀ i, i < 8 → x.1 346 i = m 21 i) ∧ ∀ i, i < 192 → x.1 345 i = m 20 i
      exact ⟨d1, rfl, by rw [if_neg j0]; exact d3, fun _ => d4.trans h28.symm, d5, d6⟩
    rw [FX2_work, Fworks, if_neg hx3, if_neg hm3, h28, hc, d2, d4]
    by_cases hl : nI B ≤ m 0 26
    · rw [if_pos hl, if_pos hl]
      exact go _
    · rw [if_neg hl, if_neg hl]
      exact go _
