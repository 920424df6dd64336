/-! PROCESSES, IX: its turn, class against reference -/
theorem bit4 : ∀ v, v < 12 → (((nI 4 >>> (nI v &&& 31)) &&& nI 1) = nI 1 ↔ v = 2) := by decide +kernel
def iProc (m : mD) : Prop := iSta m ∧ iPar m ∧ iHel m ∧ iPrM m ∧ (∀ u, u < 12 → 4 ≤ u → m 5 u = -1) ∧ (m 0 43 = 0 ∨ m 0 43 = 1)
theorem iProc.sta {m : mD} (h : iProc m) : iSta m := h.1
theorem iProc.par {m : mD} (h : iProc m) : iPar m := h.2.1
theorem iProc.hel {m : mD} (h : iProc m) : iHel m := h.2.2.1
theorem iProc.msg {m : mD} (h : iProc m) : iPrM m := h.2.2.2.1
theorem iProc.usr {m : mD} (h : iProc m) : ∀ u, u < 12 → 4 ≤ u → m 5 u = -1 := h.2.2.2.2.1
theorem iProc.flg {m : mD} (h : iProc m) : m 0 43 = 0 ∨ m 0 43 = 1 := h.2.2.2.2.2
theorem ptake_rel {x : xD} {m : mD} {k M : Nat} (h : R3 x m) (hd : m 0 23 = 0 ∨ m 0 23 = 1) (h5 : m 5 3 = -1) (htl : ¬ m 0 34 = 0) (hi : iProc m) (hk : k < M) (hM : M ≤ 12) (hm : m 2 3 = nI M) : DtakeOut 3 k m ∧ isX (xm x 3 k) 6 ∧ DXpgo (xm x 3 k) (some (xm x 3 k), xTake 3 k M x) ∧ Dpgo (FtakeOut 3 k m) ∧ R3 (FXpgo (xm x 3 k) (some (xm x 3 k), xTake 3 k M x)) (Fpgo (FtakeOut 3 k m)) := by
  obtain ⟨o1, o2⟩ := FtakeOut_eq (p := 3) (k := k) (by decide) hm hk hM
  obtain ⟨r1, r2, r3, r4⟩ := take_rel (p := 3) (k := k) h.1 h.2.1 h.2.2 (by decide) hk hM hm
  obtain ⟨v, hv, ev, hk4⟩ := hi.msg k M hM hm hk
  have hw : isX (xm x 3 k) 6 := isX_xm h.1.1 (by decide) (by omega)
  have mo : ∀ a j, a ≠ 1 → ¬ (a = 2 ∧ j = 3) → a ≠ 6 → mTake 3 k m a j = m a j := fun a j => mTake_o
  have e6 : ∀ i, i < 13 → mTake 3 k m 6 i = m 1 (13 * (12 * 3 + k) + i) := fun i hi => mTake_6 hi
  obtain ⟨q1, q2, q3, -⟩ := r4
  have ev' : mTake 3 k m 6 0 = nI v := (e6 0 (by decide)).trans ev
  have P := pgo_rel (x := xTake 3 k M x) (m := mTake 3 k m) (w := xm x 3 k) (v := v) (o := some (xm x 3 k)) ⟨r1, r2, r3⟩ hw (q1.trans ev') q2 q3 ev' hv (by rw [e6 1 (by decide)]; exact hk4) (by rw [mo 0 23 (by decide) (by decide) (by decide)]; exact hd) (by rw [mo 5 3 (by decide) (by decide) (by decide)]; exact h5) (by rw [mo 0 34 (by decide) (by decide) (by decide)]; exact htl) (by rw [mo 0 43 (by decide) (by decide) (by decide)]; exact hi.flg)
    (fun u hu hu4 => by rw [mo 7 u (by decide) (by omega) (by decide)]; exact hi.sta u hu hu4)
    (fun c hc hc4 => by rw [mo 11 c (by decide) (by omega) (by decide), mo 7 c (by decide) (by omega) (by decide)]; exact hi.par c hc hc4)
    (fun z => by
      rw [mo 0 43 (by decide) (by decide) (by decide)] at z
      obtain ⟨s, v2, a1, a2, a3, a4, a5, a6, a7⟩ := hi.hel z
      refine ⟨s, v2, a1, a2, a3, a4, ?_, ?_, ?_⟩
      · rw [mo 0 46 (by decide) (by decide) (by decide)]; exact a5
      · rw [mo 0 45 (by decide) (by decide) (by decide)]; exact a6
      · rw [mo 0 44 (by decide) (by decide) (by decide), mo 7 s (by decide) (by omega) (by decide), mo 11 s (by decide) (by omega) (by decide)]; exact a7)
    (fun u hu hu4 => by rw [mo 5 u (by decide) (by omega) (by decide)]; exact hi.usr u hu hu4)
  rw [o1]
  exact ⟨o2, hw, P.1, P.2.1, P.2.2⟩
theorem FX8_takeTurn_0 {x : xD} (h : x.1 357 4 = 0) : FX8_takeTurn x = ab_o (FX0_take 91 (nI 0) x).1 (FX0_take 91 (nI 0) x).2 (fun w => FXpgo w (FX0_take 91 (nI 0) x)) := by
  rw [FX8_takeTurn, if_pos h]
  rfl
theorem FX8_takeTurn_1 {x : xD} (h : ¬ x.1 357 4 = 0) : FX8_takeTurn x = ab_o (FX0_take 91 (FX0_firstFor 91 (nI 4) x) x).1 (FX0_take 91 (FX0_firstFor 91 (nI 4) x) x).2 (fun w => FXpgo w (FX0_take 91 (FX0_firstFor 91 (nI 4) x) x)) := by
  rw [FX8_takeTurn, if_neg h]
  rfl
theorem DX8_takeTurn_of {x : xD} (h0 : x.1 357 4 = 0 → DX0_take 91 (nI 0) x ∧ ∀ w : Nat, (FX0_take 91 (nI 0) x).1 = some w → DXpgo w (FX0_take 91 (nI 0) x)) (h1 : ¬ x.1 357 4 = 0 → DX0_firstFor 91 (nI 4) x ∧ DX0_take 91 (FX0_firstFor 91 (nI 4) x) x ∧ ∀ w : Nat, (FX0_take 91 (FX0_firstFor 91 (nI 4) x) x).1 = some w → DXpgo w (FX0_take 91 (FX0_firstFor 91 (nI 4) x) x)) : DX8_takeTurn x :=
  ⟨fun z => ⟨(h0 z).1, fun _ => trivial, (h0 z).2⟩, fun z => ⟨(h1 z).1, (h1 z).2.1, fun _ => trivial, (h1 z).2.2⟩⟩
theorem processes_rel {x : xD} {m : mD} (h : R3 x m) (hd : m 0 23 = 0 ∨ m 0 23 = 1) (h5 : m 5 3 = -1) (htl : ¬ m 0 34 = 0) (hi : iProc m) : DX8_takeTurn x ∧ Dprocesses_11 14 0 m ∧ R3 (FX8_takeTurn x) (Fprocesses_11 14 0 m) := by
  obtain ⟨M, hM, e1, e2, e3⟩ := h.1.2.1 3 (by decide)
  have c43 : x.1 357 4 = m 0 43 := h.2.2.2.2.2.2.2.2.1.2.1
  by_cases z : m 0 43 = 0
  · have zx : x.1 357 4 = 0 := c43.trans z
    by_cases h0 : 0 < M
    · obtain ⟨p1, p2, p3, p4, p5⟩ := ptake_rel (k := 0) h hd h5 htl hi h0 hM e1
      obtain ⟨t1, t2⟩ := FX0_take_eq (p := 3) (k := 0) (by decide) h.1.1 h0 hM e2
      have t1 : FX0_take 91 (nI 0) x = (some (xm x 3 0), xTake 3 0 M x) := t1
      have t2 : DX0_take 91 (nI 0) x := t2
      obtain ⟨f1, f2⟩ := Fprocesses_11_0 (n := 13) hM e1 z (fun _ => ⟨p1, p4⟩)
      rw [if_pos h0] at f1
      rw [FX8_takeTurn_0 zx, f1, t1, ab_o_s rfl]
      refine ⟨DX8_takeTurn_of (fun _ => ⟨t2, fun w hw => ?_⟩) (fun y => absurd zx y), f2, p5⟩
      rw [t1] at hw ⊢
      cases hw
      exact p3
    · obtain ⟨t1, t2⟩ := FX0_take_no (x := x) (p := 3) (i := nI 0) (by decide) (Or.inr (by rw [e2, show M = 0 by omega]; decide))
      have t1 : FX0_take 91 (nI 0) x = (none, x) := t1
      have t2 : DX0_take 91 (nI 0) x := t2
      obtain ⟨f1, f2⟩ := Fprocesses_11_0 (n := 13) hM e1 z (fun y => absurd y h0)
      rw [if_neg h0] at f1
      rw [FX8_takeTurn_0 zx, f1, t1, ab_o_n rfl]
      refine ⟨DX8_takeTurn_of (fun _ => ⟨t2, fun w hw => ?_⟩) (fun y => absurd zx y), f2, h⟩
      rw [t1] at hw
      cases hw
  · have zx : ¬ x.1 357 4 = 0 := by rw [c43]; exact z
    obtain ⟨f, hf, f1, f2⟩ := first_ex (fun j => m 1 (13 * (12 * 3 + j) + 1) = 0 ∨ m 1 (13 * (12 * 3 + j) + 0) = nI 2) M
    have ek : ∀ k, k < M → (x.1 (xm x 3 k) 2 = 0 ∨ ((nI 4 >>> (x.1 (xm x 3 k) 1 &&& 31)) &&& nI 1) = nI 1 ↔ (m 1 (13 * (12 * 3 + k) + 1) = 0 ∨ m 1 (13 * (12 * 3 + k) + 0) = nI 2)) := fun k hk => by
      obtain ⟨v, hv, ev, -⟩ := hi.msg k M hM e1 hk
      have s1 : x.1 (xm x 3 k) 1 = m 1 (13 * (12 * 3 + k) + 0) := (e3 k hk).1
      have s2 : x.1 (xm x 3 k) 2 = m 1 (13 * (12 * 3 + k) + 1) := (e3 k hk).2.1
      rw [s1, s2, ev, bit4 v hv]
      constructor
      · rintro (y | y)
        · exact Or.inl y
        · exact Or.inr (by rw [y])
      · rintro (y | y)
        · exact Or.inl y
        · exact Or.inr ((nI_eq (by omega) (by omega)).mp y)
    obtain ⟨q1, q2⟩ := FX0_firstFor_l (p := 3) (w := nI 4) (by decide) h.1.1 hM e2 hf (fun j hj => fun y => f1 j hj ((ek j (by omega)).mp y)) (fun hj => (ek f hj).mpr (f2 hj)) 13 0 (by omega) (by omega)
    have q1 : FX0_firstFor 91 (nI 4) x = (if f < M then nI f else -1) := q1
    have q2 : DX0_firstFor 91 (nI 4) x := q2
    by_cases hfM : f < M
    · obtain ⟨p1, p2, p3, p4, p5⟩ := ptake_rel (k := f) h hd h5 htl hi hfM hM e1
      obtain ⟨t1, t2⟩ := FX0_take_eq (p := 3) (k := f) (by decide) h.1.1 hfM hM e2
      have t1 : FX0_take 91 (nI f) x = (some (xm x 3 f), xTake 3 f M x) := t1
      have t2 : DX0_take 91 (nI f) x := t2
      obtain ⟨g1, g2⟩ := Fprocesses_11_l hM e1 z hf f1 f2 (fun _ => ⟨p1, p4⟩) 14 0 (by omega) (by omega)
      rw [if_pos hfM] at g1 q1
      rw [FX8_takeTurn_1 zx, g1, q1, t1, ab_o_s rfl]
      refine ⟨DX8_takeTurn_of (fun y => absurd y zx) (fun _ => ?_), g2, p5⟩
      rw [q1, t1]
      refine ⟨q2, t2, fun w hw => ?_⟩
      cases hw
      exact p3
    · obtain ⟨t1, t2⟩ := FX0_take_no (x := x) (p := 3) (i := -1) (by decide) (Or.inl (by decide))
      have t1 : FX0_take 91 (-1) x = (none, x) := t1
      have t2 : DX0_take 91 (-1) x := t2
      obtain ⟨g1, g2⟩ := Fprocesses_11_l hM e1 z hf f1 f2 (fun y => absurd y hfM) 14 0 (by omega) (by omega)
      rw [if_neg hfM] at g1 q1
      rw [FX8_takeTurn_1 zx, g1, q1, t1, ab_o_n rfl]
      refine ⟨DX8_takeTurn_of (fun y => absurd y zx) (fun _ => ?_), g2, h⟩
      rw [q1, t1]
      refine ⟨q2, t2, fun w hw => ?_⟩
      cases hw
def FXpro (x : xD) : xD := if (FX1_sendHeld (nI 3) x).1 = 0 then FX8_takeTurn (FX1_sendHeld (nI 3) x).2 else (FX1_sendHeld (nI 3) x).2
theorem processes_turn {x : xD} {m : mD} (h : R3 x m) (htl : ¬ m 0 34 = 0) (hd : m 0 23 = 0 ∨ m 0 23 = 1) (hi : iProc m) : DX1_sendHeld (nI 3) x ∧ ((FX1_sendHeld (nI 3) x).1 = 0 → DX8_takeTurn (FX1_sendHeld (nI 3) x).2) ∧ Dprocesses m ∧ R3 (FXpro x) (Fprocesses m) := by
  obtain ⟨h1, h2, hc⟩ := held_rel (p := 3) h.1 h.2.1 (by decide) hd htl
  rcases hc with ⟨c1, c2, c3⟩ | ⟨x', m', c1, c2, c3, c4, c5, c6, c7⟩
  · obtain ⟨g1, g2, g3⟩ := processes_rel h hd c1 htl hi
    rw [FXpro, Fprocesses, Dprocesses, c2, c3]
    dsimp only
    rw [if_pos nI00, if_pos nI00]
    exact ⟨h1, fun _ => g1, ⟨h2, fun _ => g2, fun _ => trivial⟩, g3⟩
  · rw [FXpro, Fprocesses, Dprocesses, c2, c3]
    dsimp only
    rw [if_neg nI10, if_neg nI10]
    exact ⟨h1, fun z => absurd z nI10, ⟨h2, fun z => absurd z nI10, fun _ => trivial⟩, c4, c5, h.2.2.send c6 c7⟩
