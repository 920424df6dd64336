/-! FILES, IV: it asks the driver -/
theorem eqM.fk {a k : Int32} {c : mD} {q : Nat} {g : Nat → Int32} (h : eqM a c q g) (hk : k = nI 21 ∨ ¬ g 1 = nI 22) : eqM k c q g := by
  obtain ⟨e1, e2, e3, e4, e5, e6⟩ := h
  refine ⟨e1, e2, e3, e4, e5, fun z => ?_⟩
  rcases z with z | ⟨z1, z2⟩
  · exact e6 (Or.inl z)
  · rcases hk with y | y
    · rw [y] at z2; exact absurd z2 (by decide)
    · exact absurd z1 y
theorem RM.fk {x : xD} {m : mD} {k : Int32} (h : RM x m) (hn : k = nI 21 ∨ ∀ p M j, p < 12 → M ≤ 12 → m 2 p = nI M → j < M → ¬ m 1 (13 * (12 * p + j) + 1) = nI 22) : RM x (ab_up m 0 40 k) := by
  obtain ⟨a1, a2, a3, a4, a5, a6⟩ := h
  refine ⟨a1, fun p hp => ?_, fun p hp => ?_, ?_, ?_, ?_⟩
  · obtain ⟨M, hM, e1, e2, e3⟩ := a2 p hp
    refine ⟨M, hM, by rw [ab_up_ne (by decide)]; exact e1, e2, fun j hj => ?_⟩
    rw [ab_up_eq]
    have E := (e3 j hj).fk (k := k) (hn.imp id (fun z => z p M j hp hM e1 hj))
    exact E.congr (fun _ _ _ => rfl) (fun _ _ => rfl) (fun i _ => ab_up_ne (by decide))
  · rw [a3 p hp, Flives_congr (m := m) (ab_up_nj (by decide)) (ab_up_ne (by decide))]
  · rw [ab_up_nj (by decide)]; exact a4
  · rw [ab_up_nj (by decide)]; exact a5
  · rw [ab_up_nj (by decide)]; exact a6
theorem RH.fk {x : xD} {m : mD} {k : Int32} (h : RH x m) (hn : k = nI 21 ∨ ∀ p, p < 12 → ¬ m 5 p = -1 → ¬ m 4 (13 * p + 1) = nI 22) : RH x (ab_up m 0 40 k) := by
  intro p hp
  obtain ⟨a1, a2⟩ := h p hp
  have e5 : ab_up m 0 40 k 5 p = m 5 p := ab_up_ne (by decide)
  refine ⟨by rw [e5]; exact a1, ?_⟩
  rw [e5]
  rcases a2 with z | ⟨t, ht, b1, b2, b3, b4⟩
  · exact Or.inl z
  · refine Or.inr ⟨t, ht, b1, b2, ?_, ?_⟩
    · rw [ab_up_eq]
      have hne : ¬ m 5 p = -1 := by rw [b1]; exact nI_ne_m1 t (by omega)
      have E := b3.fk (k := k) (hn.imp id (fun z => by
        show ¬ (if 1 = 0 then nI p else m 4 (13 * p + 1)) = nI 22
        rw [if_neg (by decide)]
        exact z p hp hne))
      refine E.congr (fun _ _ _ => rfl) (fun _ _ => rfl) (fun i _ => ?_)
      show (if i = 0 then nI p else ab_up m 0 40 k 4 (13 * p + i)) = (if i = 0 then nI p else m 4 (13 * p + i))
      rw [ab_up_ne (by decide)]
    · rw [ab_up_nj (by decide)]; exact b4
theorem RH.told {x : xD} {m : mD} {v : Int32} (h : RH x m) (h5 : m 5 2 = -1) : RH x (ab_up m 0 34 v) := by
  intro p hp
  obtain ⟨a1, a2⟩ := h p hp
  have e5 : ab_up m 0 34 v 5 p = m 5 p := ab_up_ne (by decide)
  refine ⟨by rw [e5]; exact a1, ?_⟩
  rw [e5]
  by_cases e : p = 2
  · subst e; exact Or.inl h5
  · rcases a2 with z | ⟨t, ht, b1, b2, b3, b4⟩
    · exact Or.inl z
    · refine Or.inr ⟨t, ht, b1, b2, ?_, ?_⟩
      · rw [ab_up_nj (by decide)]
        refine b3.congr (fun _ _ _ => rfl) (fun _ _ => rfl) (fun i _ => ?_)
        show (if i = 0 then nI p else ab_up m 0 34 v 4 (13 * p + i)) = (if i = 0 then nI p else m 4 (13 * p + i))
        rw [ab_up_ne (by decide)]
      · rw [b4, if_neg (fun z => e z.1), if_neg (fun z => e z.1)]
def mAsk (m : mD) : mD := fil (mDr (m 0 40) (m 0 41) (nI 0) (ab_up m 0 35 (nI 1))) 3 5 8 (fun i => if m 0 40 = nI 21 then m 22 i else nI 0)
theorem FasksDriver_20_l {m : mD} (hD : Dsends 2 1 (mAsk m)) : ∀ (n k : Nat), k ≤ 8 → 8 - k < n → FasksDriver_20 n k (fil (mDr (m 0 40) (m 0 41) (nI 0) (ab_up m 0 35 (nI 1))) 3 5 k (fun i => if m 0 40 = nI 21 then m 22 i else nI 0)) = Fsends 2 1 (mAsk m) ∧ DasksDriver_20 n k (fil (mDr (m 0 40) (m 0 41) (nI 0) (ab_up m 0 35 (nI 1))) 3 5 k (fun i => if m 0 40 = nI 21 then m 22 i else nI 0)) := by
  intro n
  induction n with
  | zero => intro k _ h; omega
  | succ n ih =>
    intro k hk hn
    by_cases e : 8 ≤ k
    · have e8 : k = 8 := by omega
      subst e8
      rw [FasksDriver_20, DasksDriver_20, if_pos e]
      exact ⟨rfl, by decide, fun _ => ⟨hD, trivial⟩, fun z => absurd e z⟩
    · obtain ⟨i1, i2⟩ := ih (k + 1) (by omega) (by omega)
      have es := fil_s (m := mDr (m 0 40) (m 0 41) (nI 0) (ab_up m 0 35 (nI 1))) (q := 3) (lo := 5) (k := k) (g := fun i => if m 0 40 = nI 21 then m 22 i else nI 0)
      have e40 : fil (mDr (m 0 40) (m 0 41) (nI 0) (ab_up m 0 35 (nI 1))) 3 5 k (fun i => if m 0 40 = nI 21 then m 22 i else nI 0) 0 40 = m 0 40 := by rw [fil_q (by decide), mDr_q (by decide), ab_up_nj (by decide)]
      have e22 : fil (mDr (m 0 40) (m 0 41) (nI 0) (ab_up m 0 35 (nI 1))) 3 5 k (fun i => if m 0 40 = nI 21 then m 22 i else nI 0) 22 k = m 22 k := by rw [fil_q (by decide), mDr_q (by decide), ab_up_ne (by decide)]
      rw [FasksDriver_20, DasksDriver_20, if_neg e, e40]
      by_cases c : m 0 40 = nI 21
      · simp only [if_pos c] at es i1 i2 ⊢
        simp only [if_pos c] at e22
        rw [e22, es]
        exact ⟨i1, by omega, fun z => absurd z e, fun _ => ⟨fun _ => ⟨by omega, by omega, i2⟩, fun z => absurd c z⟩⟩
      · simp only [if_neg c] at es i1 i2 ⊢
        rw [es]
        exact ⟨i1, by omega, fun z => absurd z e, fun _ => ⟨fun z => absurd z c, fun _ => ⟨by omega, i2⟩⟩⟩
theorem FasksDriver_eq {m : mD} (hD : Dsends 2 1 (mAsk m)) : FasksDriver m = Fsends 2 1 (mAsk m) ∧ DasksDriver m := by
  have h := FasksDriver_20_l hD 9 0 (by omega) (by omega)
  rw [fil_0] at h
  have e40 : ab_up m 0 35 (nI 1) 0 40 = m 0 40 := ab_up_nj (by decide)
  have e41 : ab_up m 0 35 (nI 1) 0 41 = m 0 41 := ab_up_nj (by decide)
  rw [FasksDriver, DasksDriver]
  dsimp only
  rw [e40, e41, Fdrafts_eq]
  exact ⟨h.1, Ddrafts_ok _ _ _ _, h.2⟩
/-- the class's message to the driver -/
def xA0 (k : Int32) (c : mD) : mD := ab_up (xW (33 + 28 * 2) (nI 2) k (c 347 10) (nI 0) (ab_up (ab_up c 347 9 k) 347 2 (nI 1))) (33 + 28 * 2) 6 (c 347 4)
def xA (k : Int32) (c : mD) : mD := if k = nI 21 then fil (xA0 k c) (33 + 28 * 2 + 1) 0 8 (fun i => c 356 i) else xA0 k c
theorem xA0_o {k : Int32} {c : mD} {a j : Nat} (h1 : ¬ a = 89) (h2 : ¬ a = 347) : xA0 k c a j = c a j := by
  rw [xA0, ab_up_ne (by omega), xW_o (by omega), ab_up_ne h2, ab_up_ne h2]
theorem xA_o {k : Int32} {c : mD} {a j : Nat} (h1 : ¬ a = 89) (h2 : ¬ a = 347) (h3 : ¬ a = 90) : xA k c a j = c a j := by
  rw [xA]
  by_cases e : k = nI 21
  · rw [if_pos e, fil_q (by omega), xA0_o h1 h2]
  · rw [if_neg e, xA0_o h1 h2]
theorem FX3_ask_eq {k : Int32} {x : xD} (hp : DX1_post (33 + 28 * 2) (nI 1) (xA k x.1, x.2)) : FX3_ask k x = (FX1_post (33 + 28 * 2) (nI 1) (xA k x.1, x.2)).2 ∧ DX3_ask k x := by
  have e10 : ab_up (ab_up x.1 347 9 k) 347 2 (nI 1) 347 10 = x.1 347 10 := by rw [ab_up_nj (by decide), ab_up_nj (by decide)]
  have e4 : xW (33 + 28 * 2) (nI 2) k (x.1 347 10) (nI 0) (ab_up (ab_up x.1 347 9 k) 347 2 (nI 1)) 347 4 = x.1 347 4 := by rw [xW_o (by decide), ab_up_nj (by decide), ab_up_nj (by decide)]
  obtain ⟨d1, d2⟩ := FX1_draft_eq (f := 2) (k := k) (a := x.1 347 10) (b := nI 0) (x := (ab_up (ab_up x.1 347 9 k) 347 2 (nI 1), x.2)) (by decide)
  obtain ⟨n1, n2⟩ := FX6_setNumbers_eq (s := 33 + 28 * 2) (q := 356) (G := 0) (L := 8) (x := (xA0 k x.1, x.2)) (isX_dra (by decide)) ⟨by decide, rfl⟩ rfl (by decide) (by decide) (by decide)
  have ef : (fun i => (xA0 k x.1, x.2).1 356 (0 + i)) = (fun i => x.1 356 i) := by
    funext i
    show xA0 k x.1 356 (0 + i) = _
    rw [xA0_o (by decide) (by decide), Nat.zero_add]
  rw [ef] at n1
  have ex8 : (ab_up (xW (33 + 28 * 2) (nI 2) k (x.1 347 10) (nI 0) (ab_up (ab_up x.1 347 9 k) 347 2 (nI 1))) (33 + 28 * 2) 6 (x.1 347 4), x.2) = (xA0 k x.1, x.2) := rfl
  rw [FX3_ask, DX3_ask]
  dsimp only
  rw [e10, d1]
  dsimp only
  rw [e4, ab_o_s rfl, ex8]
  by_cases e : k = nI 21
  · have eA : (fil (xA0 k x.1) (33 + 28 * 2 + 1) 0 8 (fun i => x.1 356 i), x.2) = (xA k x.1, x.2) := by rw [xA, if_pos e]
    rw [eA] at n1
    rw [if_pos e, n1]
    refine ⟨rfl, d2, fun _ => trivial, fun w hw => ?_⟩
    cases hw
    rw [ex8, n1]
    exact ⟨isX_dra (by decide), fun _ => ⟨n2, hp, trivial⟩, fun z => absurd e z⟩
  · have eA : xA0 k x.1 = xA k x.1 := by rw [xA, if_neg e]
    rw [if_neg e, eA]
    refine ⟨rfl, d2, fun _ => trivial, fun w hw => ?_⟩
    cases hw
    rw [ex8, eA]
    exact ⟨isX_dra (by decide), fun z => absurd z e, fun _ => ⟨hp, trivial⟩⟩
theorem ask_rel {x : xD} {m : mD} (h : RM x m) (hH : RH x m) (hR : RR (ab_up (ab_up x.1 347 9 (m 0 40)) 347 2 (nI 1)) (ab_up m 0 35 (nI 1))) (hk : m 0 40 = nI 20 ∨ m 0 40 = nI 21) (h5 : m 5 2 = -1) (htl : ¬ m 0 34 = 0) (hd : m 0 23 = 0 ∨ m 0 23 = 1) : DX3_ask (m 0 40) x ∧ DasksDriver m ∧ R3 (FX3_ask (m 0 40) x) (FasksDriver m) := by
  have b6 : nI 1 = nI 1 ∧ x.1 347 4 = m 0 34 ∧ (nI 1 = 1 → x.1 347 6 = m 0 37 ∧ m 0 38 = nI 4 * m 0 37 + x.1 347 7 ∧ m 0 40 = m 0 40 ∧ x.1 347 10 = m 0 41 ∧ x.1 347 5 = (if m 0 36 = 1 then 1 else 0) ∧ (¬ m 0 36 = 1 → x.1 347 8 = m 0 39) ∧ (m 0 40 = 21 → ∀ i, i < 8 → x.1 356 i = m 22 i)) := hR.2.2.2.2.2.1
  obtain ⟨-, e4, e5⟩ := b6
  obtain ⟨-, -, -, e10, -, -, e356⟩ := e5 rfl
  obtain ⟨w1, w2, w3, w4, w5, w6, w7⟩ := xW_s (s := 33 + 28 * 2) (f := nI 2) (k := m 0 40) (a := x.1 347 10) (b := nI 0) (c := ab_up (ab_up x.1 347 9 (m 0 40)) 347 2 (nI 1))
  have o : ∀ a j, ¬ a = 89 → ¬ a = 347 → ¬ a = 90 → xA (m 0 40) x.1 a j = x.1 a j := fun a j => xA_o
  have y0 : ∀ j, xA (m 0 40) x.1 89 j = xA0 (m 0 40) x.1 89 j := fun j => by
    rw [xA]
    by_cases e : m 0 40 = nI 21
    · rw [if_pos e, fil_q (by decide)]
    · rw [if_neg e]
  have y : ∀ j, ¬ j = 6 → xA (m 0 40) x.1 89 j = xW (33 + 28 * 2) (nI 2) (m 0 40) (x.1 347 10) (nI 0) (ab_up (ab_up x.1 347 9 (m 0 40)) 347 2 (nI 1)) 89 j := fun j hj => by rw [y0, xA0]; exact ab_up_nj hj
  have y6 : xA (m 0 40) x.1 89 6 = x.1 347 4 := by rw [y0, xA0]; exact ab_up_eq
  have mo : ∀ a j, ¬ a = 3 → ¬ (a = 0 ∧ j = 35) → mAsk m a j = m a j := fun a j h3 h35 => by rw [mAsk, fil_q h3, mDr_q h3, ab_up_na h35]
  have m3 : ∀ j, j < 5 → mAsk m 3 j = mDr (m 0 40) (m 0 41) (nI 0) (ab_up m 0 35 (nI 1)) 3 j := fun j hj => by rw [mAsk, fil_out (by omega)]
  have RMy : RM (xA (m 0 40) x.1, x.2) (mAsk m) := (h.xc (x' := (xA (m 0 40) x.1, x.2)) (fun _ _ _ _ => rfl) (fun p hp => o (7 + 28 * p) 1 (by omega) (by omega) (by omega)) (fun p hp a j _ _ => o a j (by omega) (by omega) (by omega)) (fun p hp => o 3 p (by omega) (by omega) (by omega)) (o 1 4 (by omega) (by omega) (by omega)) (o 1 5 (by omega) (by omega) (by omega)) (o 1 6 (by omega) (by omega) (by omega))).mc (fun i _ => mo 1 i (by omega) (by omega)) (fun i _ => mo 2 i (by omega) (by omega)) (fun i _ => mo 7 i (by omega) (by omega)) (fun j hj => mo 0 j (by omega) (by omega))
  obtain ⟨c1, c2, c3, c4, c5, c6⟩ := sends_core (y := (xA (m 0 40) x.1, x.2)) (n := mAsk m) (f := 2) (t := 1) RMy
    (fun p hp hpf => (hH p hp).congr (fun j => o (33 + 28 * p) j (by omega) (by omega) (by omega)) (fun j => o (33 + 28 * p + 1) j (by omega) (by omega) (by omega)) (mo 5 p (by omega) (by omega)) (fun i _ => mo 4 _ (by omega) (by omega)) (mo 0 40 (by omega) (by omega)) (mo 0 34 (by omega) (by omega))) (by decide) (by decide) (by rw [mo 0 23 (by omega) (by omega)]; exact hd) ((y 1 (by decide)).trans w1)
    (by
      refine ⟨(y 1 (by decide)).trans w1, ?_, ?_, ?_, ?_, ?_⟩
      · refine ((y 2 (by decide)).trans w2).trans ?_
        show m 0 40 = (if 1 = 0 then nI 2 else mAsk m 3 1)
        rw [if_neg (by decide), m3 1 (by decide), mDr_3 (by decide)]; rfl
      · refine ((y 3 (by decide)).trans w3).trans ?_
        show x.1 347 10 = (if 2 = 0 then nI 2 else mAsk m 3 2)
        rw [if_neg (by decide), m3 2 (by decide), mDr_3 (by decide), e10]; rfl
      · refine ((y 4 (by decide)).trans w4).trans ?_
        show nI 0 = (if 3 = 0 then nI 2 else mAsk m 3 3)
        rw [if_neg (by decide), m3 3 (by decide), mDr_3 (by decide)]; rfl
      · refine ((y 5 (by decide)).trans w5).trans ?_
        show 0 = (if 4 = 0 then nI 2 else mAsk m 3 4)
        rw [if_neg (by decide), m3 4 (by decide), mDr_3 (by decide)]; rfl
      · intro hz i hi
        have hz2 : mAsk m 3 1 = 21 ∨ mAsk m 3 1 = 22 ∧ mAsk m 0 40 = 20 := hz
        have e31 : mAsk m 3 1 = m 0 40 := by rw [m3 1 (by decide), mDr_3 (by decide)]; rfl
        rw [e31] at hz2
        have k21 : m 0 40 = nI 21 := by
          rcases hz2 with z | z
          · exact z
          · rcases hk with y | y
            · rw [y] at z; exact absurd z.1 (by decide)
            · exact y
        show xA (m 0 40) x.1 90 i = (if 5 + i = 0 then nI 2 else mAsk m 3 (5 + i))
        have q1 : xA (m 0 40) x.1 90 i = x.1 356 i := by
          rw [xA, if_pos k21]
          have := fil_in (m := xA0 (m 0 40) x.1) (q := 33 + 28 * 2 + 1) (lo := 0) (n := 8) (j := i) (g := fun i => x.1 356 i) (by omega) (by omega)
          exact this
        rw [q1, if_neg (by omega), mAsk, fil_in (by omega) (by omega), Nat.add_sub_cancel_left, if_pos k21]
        exact e356 k21 i hi)
    ((y 7 (by decide)).trans w7) (by rw [mo 5 2 (by omega) (by omega)]; exact h5) (by
      refine y6.trans ?_
      rw [if_pos ⟨rfl, rfl⟩, mo 0 34 (by omega) (by omega)]; exact e4) (by rw [mo 0 34 (by omega) (by omega)]; exact htl)
  obtain ⟨a1, a2⟩ := FX3_ask_eq (k := m 0 40) (x := x) c1
  obtain ⟨f1, f2⟩ := FasksDriver_eq c2
  rw [a1, f1]
  refine ⟨a2, f2, c3, c4, ?_⟩
  have R1 : RR (xA (m 0 40) x.1) (mAsk m) := hR.fr (fun a j ha => by
    have e : xA (m 0 40) x.1 a j = xA0 (m 0 40) x.1 a j := by
      rw [xA]
      by_cases e : m 0 40 = nI 21
      · rw [if_pos e, fil_q (by omega)]
      · rw [if_neg e]
    rw [e, xA0, ab_up_ne (by omega), xW_o (by omega)]) (fun a j ha => by rw [mAsk, fil_q (by omega), mDr_q (by omega)])
  exact RR.send (x := (xA (m 0 40) x.1, x.2)) R1 c5 c6
theorem hear_rel {x : xD} {m : mD} {v : Int32} (h : R3 x m) (h5 : m 5 2 = -1) (hd : m 0 23 = 0 ∨ m 0 23 = 1) (hv : ¬ v = 0) (h35 : m 0 35 = 0 ∨ m 0 35 = 1) (hk : m 0 35 = 1 → m 0 40 = nI 20 ∨ m 0 40 = nI 21) : DX3_hearOfLife v x ∧ (¬ m 0 35 = 0 → DasksDriver (ab_up m 0 34 v)) ∧ R3 (FX3_hearOfLife v x) (if m 0 35 = 0 then ab_up m 0 34 v else FasksDriver (ab_up m 0 34 v)) := by
  obtain ⟨r1, r2, b1, b2, b3, b4, b5, b6, b7, b8⟩ := h
  have b6' : x.1 347 2 = m 0 35 ∧ x.1 347 4 = m 0 34 ∧ (m 0 35 = 1 → x.1 347 6 = m 0 37 ∧ m 0 38 = nI 4 * m 0 37 + x.1 347 7 ∧ x.1 347 9 = m 0 40 ∧ x.1 347 10 = m 0 41 ∧ x.1 347 5 = (if m 0 36 = 1 then 1 else 0) ∧ (¬ m 0 36 = 1 → x.1 347 8 = m 0 39) ∧ (m 0 40 = 21 → ∀ i, i < 8 → x.1 356 i = m 22 i)) := b6
  have o : ∀ a j, ¬ a = 347 → ab_up x.1 347 4 v a j = x.1 a j := fun a j ha => ab_up_ne ha
  have RM1 : RM (ab_up x.1 347 4 v, x.2) (ab_up m 0 34 v) := (r1.xc (x' := (ab_up x.1 347 4 v, x.2)) (fun _ _ _ _ => rfl) (fun p hp => o (7 + 28 * p) 1 (by omega)) (fun p hp a j _ _ => o a j (by omega)) (fun p hp => o 3 p (by omega)) (o 1 4 (by omega)) (o 1 5 (by omega)) (o 1 6 (by omega))).mc (fun i _ => ab_up_ne (by omega)) (fun i _ => ab_up_ne (by omega)) (fun i _ => ab_up_ne (by omega)) (fun j hj => ab_up_nj (by omega))
  have RH1 : RH (ab_up x.1 347 4 v, x.2) (ab_up m 0 34 v) := (r2.told (v := v) h5).fr (fun p hp j => ⟨ab_up_ne (by omega), ab_up_ne (by omega)⟩) (fun _ _ => rfl) (fun _ _ => rfl) rfl rfl
  have RR1 : RR (ab_up x.1 347 4 v) (ab_up m 0 34 v) := ⟨b1, b2, b3, b4, b5, ⟨b6'.1, rfl, b6'.2.2⟩, b7, b8⟩
  have e2 : ab_up x.1 347 4 v 347 2 = m 0 35 := by rw [ab_up_nj (by decide)]; exact b6'.1
  rcases h35 with z | z
  · have z2 : (ab_up x.1 347 4 v, x.2).1 347 2 = 0 := e2.trans z
    have ex : FX3_hearOfLife v x = (ab_up x.1 347 4 v, x.2) := by
      rw [FX3_hearOfLife]
      exact if_pos z2
    rw [ex, if_pos z]
    exact ⟨⟨fun _ => trivial, fun y => absurd z2 y⟩, fun y => absurd z y, RM1, RH1, RR1⟩
  · have z0 : ¬ m 0 35 = 0 := by rw [z]; decide
    have z2 : ¬ (ab_up x.1 347 4 v, x.2).1 347 2 = 0 := fun y => z0 (e2.symm.trans y)
    have e9 : ab_up x.1 347 4 v 347 9 = m 0 40 := by rw [ab_up_nj (by decide)]; exact (b6'.2.2 z).2.2.1
    have m40 : ab_up m 0 34 v 0 40 = m 0 40 := ab_up_nj (by decide)
    have s1 : ab_up (ab_up x.1 347 4 v) 347 9 (m 0 40) = ab_up x.1 347 4 v := ab_up_self e9
    have s2 : ab_up (ab_up x.1 347 4 v) 347 2 (nI 1) = ab_up x.1 347 4 v := ab_up_self (e2.trans z)
    have s3 : ab_up (ab_up m 0 34 v) 0 35 (nI 1) = ab_up m 0 34 v := ab_up_self (by rw [ab_up_nj (by decide)]; exact z)
    have A := ask_rel (x := (ab_up x.1 347 4 v, x.2)) (m := ab_up m 0 34 v) RM1 RH1 (by
      rw [m40, s3]
      show RR (ab_up (ab_up (ab_up x.1 347 4 v) 347 9 (m 0 40)) 347 2 (nI 1)) (ab_up m 0 34 v)
      rw [s1, s2]
      exact RR1) (by rw [m40]; exact hk z) (by rw [ab_up_ne (by decide)]; exact h5) (by rw [ab_up_eq]; exact hv) (by rw [ab_up_nj (by decide)]; exact hd)
    rw [m40] at A
    have ex : FX3_hearOfLife v x = FX3_ask (m 0 40) (ab_up x.1 347 4 v, x.2) := by
      rw [FX3_hearOfLife]
      refine (if_neg z2).trans ?_
      show FX3_ask (ab_up x.1 347 4 v 347 9) (ab_up x.1 347 4 v, x.2) = _
      rw [e9]
    have dx : DX3_hearOfLife v x := by
      refine ⟨fun y => absurd y z2, fun _ => ⟨?_, trivial⟩⟩
      show DX3_ask (ab_up x.1 347 4 v 347 9) (ab_up x.1 347 4 v, x.2)
      rw [e9]
      exact A.1
    rw [ex, if_neg z0]
    exact ⟨dx, fun _ => A.2.1, A.2.2⟩
