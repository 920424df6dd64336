/-! THE KEEPER's TURN, as a whole -/
theorem ab_up_self {α : Type} {f : Nat → Nat → α} {q j : Nat} {v : α} (h : f q j = v) : ab_up f q j v = f := by
  funext a i
  by_cases e : a = q ∧ i = j
  · obtain ⟨rfl, rfl⟩ := e
    rw [ab_up_eq, h]
  · exact ab_up_na e
def fkt (z : Option Nat × xD) : Int32 × xD := ab_o z.1 (FXchk z.2) (fun w => if z.2.1 w 2 = 0 then (nI 0, z.2) else if z.2.1 w 2 = nI 41 then FXchk (ab_up z.2.1 343 2 (nI 0), z.2.2) else FXchk z.2)
theorem FX5_takeTurn_eq {x : xD} : FX5_takeTurn x = if x.1 3 1 = 0 then (nI 0, FX5_watchDead x) else fkt (FX0_take 7 (nI 0) x) := by
  rw [FX5_takeTurn]
  dsimp only
  generalize FX0_take 7 (nI 0) x = z
  rfl
theorem DX5_takeTurn_of {x : xD} (h1 : x.1 3 1 = 0 → DX5_watchDead x) (h2 : ¬ x.1 3 1 = 0 → DX0_take 7 (nI 0) x ∧ ((FX0_take 7 (nI 0) x).1 = none → DXchk (FX0_take 7 (nI 0) x).2) ∧ (∀ w : Nat, (FX0_take 7 (nI 0) x).1 = some w → isX w 6 ∧ (¬ (FX0_take 7 (nI 0) x).2.1 w 2 = 0 → ((FX0_take 7 (nI 0) x).2.1 w 2 = nI 41 → DXchk (ab_up (FX0_take 7 (nI 0) x).2.1 343 2 (nI 0), (FX0_take 7 (nI 0) x).2.2)) ∧ (¬ (FX0_take 7 (nI 0) x).2.1 w 2 = nI 41 → DXchk (FX0_take 7 (nI 0) x).2)))) : DX5_takeTurn x := by
  rw [DX5_takeTurn]
  refine ⟨fun c => ⟨h1 c, trivial⟩, fun c => ?_⟩
  obtain ⟨a1, a2⟩ := h2 c
  refine ⟨a1, ?_⟩
  revert a2
  generalize FX0_take 7 (nI 0) x = z
  intro a2
  obtain ⟨a2, a3⟩ := a2
  refine ⟨fun e => DXchk_l (a2 e), fun w hw => ?_⟩
  obtain ⟨b1, b2⟩ := a3 w hw
  refine ⟨b1, fun _ => trivial, fun e => ?_⟩
  obtain ⟨c1, c2⟩ := b2 e
  exact ⟨fun f => DXchk_l (c1 f), fun f => DXchk_l (c2 f)⟩
theorem asked_rel {x : xD} {m : mD} {v : Int32} (h : RM x m) (hH : RH x m) (hR : RR x.1 m) : RM (ab_up x.1 343 2 v, x.2) (ab_up m 0 33 v) ∧ RH (ab_up x.1 343 2 v, x.2) (ab_up m 0 33 v) ∧ RR (ab_up x.1 343 2 v, x.2).1 (ab_up m 0 33 v) := by
  refine ⟨(h.xc (x' := (ab_up x.1 343 2 v, x.2)) (fun _ _ _ _ => rfl) (fun p hp => ab_up_ne (by omega)) (fun p hp a j _ _ => ab_up_ne (by omega)) (fun p hp => rfl) rfl rfl rfl).mc (fun _ _ => rfl) (fun _ _ => rfl) (fun _ _ => rfl) (fun j hj => by rcases hj with rfl | rfl | rfl | rfl | rfl <;> rfl), hH.fr (fun p hp j => ⟨ab_up_ne (by omega), ab_up_ne (by omega)⟩) (fun _ _ => rfl) (fun _ _ => rfl) rfl rfl, ?_⟩
  obtain ⟨b1, ⟨k1, k2, k3⟩, b3, b4, b5, b6, b7, b8⟩ := hR
  exact ⟨b1, ⟨k1, k2, fun _ => rfl⟩, b3, b4, b5, b6, b7, b8⟩
/-- takeTurn of the KEEPER (and the break that it may ask for) against what the reference does behind sendsAgain -/
theorem k2_rel {x : xD} {m : mD} (h : RM x m) (hH : RH x m) (hR : RR x.1 m) (h5 : m 5 0 = -1) (htl : ¬ m 0 34 = 0) (hd : m 0 23 = 0 ∨ m 0 23 = 1) (hi : iDead m) (ha : m 0 33 = 0 ∨ m 0 33 = 1) : DX5_takeTurn x ∧ Dk2 m ∧ RM (fin (FX5_takeTurn x)) (Fk2 m) ∧ RH (fin (FX5_takeTurn x)) (Fk2 m) ∧ RR (fin (FX5_takeTurn x)).1 (Fk2 m) := by
  have l1 : x.1 3 1 = m 0 23 := h.2.2.1 1 (by decide)
  rw [FX5_takeTurn_eq, Fk2, Dk2, l1]
  rcases hd with hd | hd
  · rw [if_pos hd, if_pos hd, fin_0]
    obtain ⟨t1, t2, t3, t4, t5⟩ := dead_rel h hH hR h5 htl hd hi
    exact ⟨DX5_takeTurn_of (fun _ => t1) (fun z => absurd (l1.trans hd) z), ⟨fun _ => t2, fun z => absurd hd z⟩, t3, t4, t5⟩
  · have hn : ¬ m 0 23 = 0 := by rw [hd]; decide
    have hnx : ¬ x.1 3 1 = 0 := by rw [l1]; exact hn
    rw [if_neg hn, if_neg hn]
    obtain ⟨M, hM, e1, e2, e3⟩ := h.2.1 0 (by decide)
    have hcM : (nI M).toNatClampNeg = M := nI_clamp (by omega)
    rw [e1, hcM]
    by_cases h0 : M = 0
    · subst h0
      have tt : FX0_take 7 (nI 0) x = (none, x) ∧ DX0_take 7 (nI 0) x := FX0_take_no (x := x) (p := 0) (i := nI 0) (by decide) (Or.inr (by rw [e2]; decide))
      obtain ⟨t1, t2⟩ := tt
      have l0 : nI 0 ≤ 0 := by decide
      rw [if_pos l0]
      obtain ⟨r1, r2, r3, r4, r5⟩ := chk_rel h hH hR h5 htl hd
      refine ⟨DX5_takeTurn_of (fun z => absurd z hnx) (fun _ => ⟨t2, ?_, ?_⟩), ⟨fun z => absurd z hn, fun _ => ⟨by decide, fun _ => r2, fun z => absurd l0 z⟩⟩, ?_⟩
      · rw [t1]; exact fun _ => r1
      · rw [t1]; intro w hw; cases hw
      · rw [t1]
        exact ⟨r3, r4, r5⟩
    · have tt : FX0_take 7 (nI 0) x = (some (xm x 0 0), xTake 0 0 M x) ∧ DX0_take 7 (nI 0) x := FX0_take_eq (p := 0) (k := 0) (by decide) h.1 (by omega) hM e2
      obtain ⟨t1, t2⟩ := tt
      obtain ⟨o1, o2⟩ := FtakeOut_eq (p := 0) (k := 0) (by decide) e1 (by omega) hM
      obtain ⟨r1, r2, r3, r4⟩ := take_rel (p := 0) (k := 0) h hH hR (by decide) (by omega) hM e1
      obtain ⟨q1, q2, q3, -⟩ := r4
      have hw : isX (xm x 0 0) 6 := isX_xm h.1 (by decide) (by decide)
      have l0 : ¬ nI M ≤ 0 := by
        intro z
        have z := Int32.le_iff_toInt_le.mp z
        rw [nI_toInt (by omega)] at z
        have : (0 : Int32).toInt = 0 := by decide
        omega
      have p0 : ¬ nI M < 0 := nI_pos (by omega)
      have z33 : mTake 0 0 m 0 33 = m 0 33 := mTake_o (by decide) (by omega) (by decide)
      have z5 : mTake 0 0 m 5 0 = -1 := (mTake_o (by decide) (by omega) (by decide)).trans h5
      have z34 : ¬ mTake 0 0 m 0 34 = 0 := by rw [mTake_o (by decide) (by omega) (by decide)]; exact htl
      have z23 : mTake 0 0 m 0 23 = 1 := (mTake_o (by decide) (by omega) (by decide)).trans hd
      rw [if_neg l0, o1, z33]
      have ex : fkt (FX0_take 7 (nI 0) x) = (if mTake 0 0 m 6 1 = 0 then (nI 0, xTake 0 0 M x) else if mTake 0 0 m 6 1 = nI 41 then FXchk (ab_up (xTake 0 0 M x).1 343 2 (nI 0), (xTake 0 0 M x).2) else FXchk (xTake 0 0 M x)) := by
        rw [fkt, t1]
        dsimp only
        rw [ab_o_s rfl, q2]
      rw [ex]
      have D1 : (¬ mTake 0 0 m 6 1 = 0 → (mTake 0 0 m 6 1 = nI 41 → DXchk (ab_up (xTake 0 0 M x).1 343 2 (nI 0), (xTake 0 0 M x).2)) ∧ (¬ mTake 0 0 m 6 1 = nI 41 → DXchk (xTake 0 0 M x))) → DX5_takeTurn x := fun hh => DX5_takeTurn_of (fun z => absurd z hnx) (fun _ => ⟨t2, fun z => (by rw [t1] at z; cases z), fun w hw0 => (by
        rw [t1] at hw0 ⊢
        cases hw0
        dsimp only
        rw [q2]
        exact ⟨hw, hh⟩)⟩)
      generalize mTake 0 0 m = n at *
      generalize xTake 0 0 M x = y at *
      by_cases c0 : n 6 1 = 0
      · rw [if_pos c0, if_pos c0, fin_0]
        exact ⟨D1 (fun z => absurd c0 z), ⟨fun z => absurd z hn, fun _ => ⟨p0, fun z => absurd z l0, fun _ => ⟨o2, fun z => absurd c0 z⟩⟩⟩, r1, r2, r3⟩
      · rw [if_neg c0, if_neg c0]
        by_cases c1 : n 6 1 = nI 41
        · obtain ⟨s1, s2, s3⟩ := asked_rel (v := nI 0) r1 r2 r3
          have w5 : (ab_up n 0 33 (nI 0)) 5 0 = -1 := z5
          have w34 : ¬ (ab_up n 0 33 (nI 0)) 0 34 = 0 := z34
          have w23 : (ab_up n 0 33 (nI 0)) 0 23 = 1 := z23
          obtain ⟨g1, g2, g3, g4, g5⟩ := chk_rel s1 s2 s3 w5 w34 w23
          rw [if_pos c1, if_pos c1, ite_self]
          exact ⟨D1 (fun _ => ⟨fun _ => g1, fun z => absurd c1 z⟩), ⟨fun z => absurd z hn, fun _ => ⟨p0, fun z => absurd z l0, fun _ => ⟨o2, fun _ => ⟨fun _ => g2, fun _ => ⟨fun _ => g2, fun z => absurd c1 z⟩⟩⟩⟩⟩, g3, g4, g5⟩
        · obtain ⟨g1, g2, g3, g4, g5⟩ := chk_rel r1 r2 r3 z5 z34 z23
          rw [if_neg c1, if_neg c1]
          rcases ha with ha | ha
          · have en : ab_up n 0 33 (nI 0) = n := ab_up_self (by rw [z33, ha]; decide)
            rw [if_pos ha, en]
            exact ⟨D1 (fun _ => ⟨fun z => absurd z c1, fun _ => g1⟩), ⟨fun z => absurd z hn, fun _ => ⟨p0, fun z => absurd z l0, fun _ => ⟨o2, fun _ => ⟨fun _ => g2, fun z => absurd ha z⟩⟩⟩⟩, g3, g4, g5⟩
          · have en : ab_up n 0 33 (nI 1) = n := ab_up_self (by rw [z33, ha]; decide)
            have ha0 : ¬ m 0 33 = 0 := by rw [ha]; decide
            rw [if_neg ha0, en]
            exact ⟨D1 (fun _ => ⟨fun z => absurd z c1, fun _ => g1⟩), ⟨fun z => absurd z hn, fun _ => ⟨p0, fun z => absurd z l0, fun _ => ⟨o2, fun _ => ⟨fun z => absurd z ha0, fun _ => ⟨fun z => absurd z c1, fun _ => g2⟩⟩⟩⟩⟩, g3, g4, g5⟩
