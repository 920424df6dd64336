/-! FILES, X: 22 of a WRITE -/
theorem goOn_3 {x : xD} {m : mD} {w v d g P S : Nat} (h : R3 x m) (ho : iOpe m) (hv : v < 8) (hd4 : d < 4) (hg : g < 16) (hP : P < 32) (hS : S ≤ 32) (e37 : m 0 37 = nI (v + 4)) (e38 : m 0 38 = nI (4 * (v + 4) + d)) (e14 : m 14 (4 * (v + 4) + d) = nI g) (t1 : m 16 g = 1) (e15 : m 15 (4 * (v + 4) + d) = nI P) (e17 : m 17 g = nI S) (e36 : m 0 36 = nI 3) (c2 : ¬ x.1 347 2 = 0) (c5 : x.1 347 5 = 0) (c9 : ¬ x.1 347 9 = nI 20) (c6 : x.1 347 6 = nI (v + 4)) (c7 : x.1 347 7 = nI d) (h5 : m 5 2 = -1) (htl : ¬ m 0 34 = 0) (hd : m 0 23 = 0 ∨ m 0 23 = 1) : DX3_goOn w x ∧ DgoesOn m ∧ R3 (FX3_goOn w x) (FgoesOn m) := by
  obtain ⟨a1, a2, a3, a4, a5, a6⟩ := at_open h ho hv hd4 hg e14
  rw [e15] at a6
  have hcs : (nI (4 * (v + 4) + d)).toNatClampNeg = 4 * (v + 4) + d := nI_clamp (by omega)
  have hcu : (nI (v + 4)).toNatClampNeg = v + 4 := nI_clamp (by omega)
  have hcg : (nI g).toNatClampNeg = g := nI_clamp (by omega)
  have U := unwait_rel h
  have o14 : (ab_up m 0 35 (nI 0)) 14 (4 * (v + 4) + d) = nI g := e14
  obtain ⟨b1, b2, b3, b4, -, -⟩ := at_open U (show iOpe (ab_up m 0 35 (nI 0)) from ho) hv hd4 hg o14
  obtain ⟨u1, -⟩ := (rTab_of h).2.1 g hg t1
  have h349 : ¬ x.1 349 g = 0 := by rw [(rTab_of h).1 g hg, t1]; decide
  have G := FX4_growOver_eq (x := (ab_up x.1 347 2 (nI 0), x.2)) (g := g) (P := P) (S := S) hg hP hS (by show ¬ ab_up x.1 347 2 (nI 0) 349 g = 0; rw [ab_up_ne (by decide)]; exact h349) (by show ab_up x.1 347 2 (nI 0) 350 g = nI S; rw [ab_up_ne (by decide)]; exact u1.trans e17)
  generalize hq : (if P = S then nI (S + 1) else nI S) = q at *
  have G1 : FX4_growOver (nI g) (nI P) (ab_up x.1 347 2 (nI 0), x.2) = (ab_up (ab_up x.1 347 2 (nI 0)) 350 g q, x.2) := G.1
  have W := grow_rel (q := q) U hg
  have W1 : R3 (ab_up (ab_up x.1 347 2 (nI 0)) 350 g q, x.2) (ab_up (ab_up m 0 35 (nI 0)) 17 g q) := W
  have p14 : (ab_up (ab_up m 0 35 (nI 0)) 17 g q) 14 (4 * (v + 4) + d) = nI g := e14
  obtain ⟨s1, s2⟩ := FX7_setPlace_eq (q := nI P + nI 1) W1 (show iOpe (ab_up (ab_up m 0 35 (nI 0)) 17 g q) from ho) hv hd4 hg p14
  have Z := place_rel (q := nI P + nI 1) W1 hv hd4
  obtain ⟨q1, q2, q3, -⟩ := tells_rel (f := 2) (u := v + 4) (v := nI 0) Z (by decide) (by omega) (by omega) hd h5 htl
  have y5 : ab_up x.1 347 2 (nI 0) 347 5 = 0 := by rw [ab_up_nj (by decide)]; exact c5
  have y6 : ab_up x.1 347 2 (nI 0) 347 6 = nI (v + 4) := by rw [ab_up_nj (by decide)]; exact c6
  have y7 : ab_up x.1 347 2 (nI 0) 347 7 = nI d := by rw [ab_up_nj (by decide)]; exact c7
  have pl : FX7_placeAt (x.1 347 6) (x.1 347 7) x = nI P := by rw [c6, c7]; exact a6
  have fl : FX7_fileAt (ab_up x.1 347 2 (nI 0) 347 6) (ab_up x.1 347 2 (nI 0) 347 7) (ab_up x.1 347 2 (nI 0), x.2) = nI g := by rw [y6, y7]; exact b4
  have g6 : ab_up (ab_up x.1 347 2 (nI 0)) 350 g q 347 6 = nI (v + 4) := by rw [ab_up_ne (by decide)]; exact y6
  have g7 : ab_up (ab_up x.1 347 2 (nI 0)) 350 g q 347 7 = nI d := by rw [ab_up_ne (by decide)]; exact y7
  have z5 : ab_up (ab_up (ab_up x.1 347 2 (nI 0)) 350 g q) 355 (4 * v + d) (nI P + nI 1) 347 5 = 0 := by rw [ab_up_ne (by decide), ab_up_ne (by decide)]; exact y5
  have z6 : ab_up (ab_up (ab_up x.1 347 2 (nI 0)) 350 g q) 355 (4 * v + d) (nI P + nI 1) 347 6 = nI (v + 4) := by rw [ab_up_ne (by decide)]; exact g6
  have s1' : FX7_setPlace (nI (v + 4)) (nI d) (nI P + nI 1) (ab_up (ab_up x.1 347 2 (nI 0)) 350 g q, x.2) = (ab_up (ab_up (ab_up x.1 347 2 (nI 0)) 350 g q) 355 (4 * v + d) (nI P + nI 1), x.2) := s1
  have ex : FX3_goOn w x = FX1_send (nI 2) (nI (v + 4)) (nI 50) (nI 0) (nI 0) (ab_up (ab_up (ab_up x.1 347 2 (nI 0)) 350 g q) 355 (4 * v + d) (nI P + nI 1), x.2) := by
    rw [FX3_goOn, if_neg c2, if_pos c5, if_neg c9]
    refine (if_pos y5).trans ?_
    have e1 : FX4_growOver (FX7_fileAt (ab_up x.1 347 2 (nI 0) 347 6) (ab_up x.1 347 2 (nI 0) 347 7) (ab_up x.1 347 2 (nI 0), x.2)) (FX7_placeAt (x.1 347 6) (x.1 347 7) x) (ab_up x.1 347 2 (nI 0), x.2) = (ab_up (ab_up x.1 347 2 (nI 0)) 350 g q, x.2) := by rw [fl, pl]; exact G1
    have e2 : FX7_setPlace ((ab_up (ab_up x.1 347 2 (nI 0)) 350 g q, x.2).1 347 6) ((ab_up (ab_up x.1 347 2 (nI 0)) 350 g q, x.2).1 347 7) (FX7_placeAt (x.1 347 6) (x.1 347 7) x + nI 1) (ab_up (ab_up x.1 347 2 (nI 0)) 350 g q, x.2) = (ab_up (ab_up (ab_up x.1 347 2 (nI 0)) 350 g q) 355 (4 * v + d) (nI P + nI 1), x.2) := by
      dsimp only
      rw [g6, g7, pl]; exact s1'
    dsimp only
    rw [e1, e2]
    refine (if_pos z5).trans ?_
    show FX1_send (nI 2) (ab_up (ab_up (ab_up x.1 347 2 (nI 0)) 350 g q) 355 (4 * v + d) (nI P + nI 1) 347 6) (nI 50) (nI 0) (nI 0) _ = _
    rw [z6]
  have dx : DX3_goOn w x := by
    have d1 : DX7_placeAt (x.1 347 6) (x.1 347 7) x := by rw [c6, c7]; exact a3
    have d2 : DX7_fileAt (ab_up x.1 347 2 (nI 0) 347 6) (ab_up x.1 347 2 (nI 0) 347 7) (ab_up x.1 347 2 (nI 0), x.2) := by rw [y6, y7]; exact b2
    refine ⟨fun z => absurd z c2, fun _ => ⟨d1, ⟨by decide, trivial⟩, fun _ => ⟨fun z => absurd z c9, fun _ => ⟨fun _ => ?_, fun z => absurd y5 z⟩⟩, fun z => absurd c5 z⟩⟩
    dsimp only
    rw [fl, pl, G1]
    dsimp only
    rw [g6, g7, s1']
    dsimp only
    rw [z6]
    exact ⟨d2, G.2, s2, fun _ => ⟨q1, trivial⟩, fun z => absurd z5 z⟩
  have f38 : (ab_up m 0 35 (nI 0)) 0 38 = nI (4 * (v + 4) + d) := e38
  have f17 : (ab_up m 0 35 (nI 0)) 17 g = nI S := e17
  have f36 : ¬ (ab_up m 0 35 (nI 0)) 0 36 = nI 1 := by rw [ab_up_nj (by decide), e36]; decide
  have f36' : ¬ (ab_up m 0 35 (nI 0)) 0 36 = nI 2 := by rw [ab_up_nj (by decide), e36]; decide
  have k38 : ∀ r : Int32, (ab_up (ab_up m 0 35 (nI 0)) 17 g r) 0 38 = nI (4 * (v + 4) + d) := fun _ => e38
  have k15 : ∀ r : Int32, (ab_up (ab_up m 0 35 (nI 0)) 17 g r) 15 (4 * (v + 4) + d) = nI P := fun _ => e15
  have k37 : ∀ r : Int32, (ab_up (ab_up (ab_up m 0 35 (nI 0)) 17 g r) 15 (4 * (v + 4) + d) (nI P + nI 1)) 0 37 = nI (v + 4) := fun _ => e37
  have em : FgoesOn m = Ftells 2 (v + 4) (nI 0) (ab_up (ab_up (ab_up m 0 35 (nI 0)) 17 g q) 15 (4 * (v + 4) + d) (nI P + nI 1)) := by
    rw [FgoesOn]
    refine (if_neg f36).trans ((if_neg f36').trans ?_)
    dsimp only
    rw [e38, hcs, e14, hcg, f17, k38, hcs, k38, hcs, k15, k15, k37, k37, hcu, e15, nI_inc S, nI_inc0]
    by_cases c : P = S
    · rw [if_pos c] at hq
      rw [if_pos (by rw [c]), hq]
    · rw [if_neg c] at hq
      rw [if_neg (fun z => c ((nI_eq (by omega) (by omega)).mp z)), hq]
  have dm : DgoesOn m := by
    have p0 : ¬ nI (4 * (v + 4) + d) < 0 := nI_pos (by omega)
    have pg : ¬ nI g < 0 := nI_pos (by omega)
    have pu : ¬ nI (v + 4) < 0 := nI_pos (by omega)
    have T : ∀ r : Int32, r = q → Dtells 2 (v + 4) (nI 0) (ab_up (ab_up (ab_up m 0 35 (nI 0)) 17 g r) 15 (4 * (v + 4) + d) (nI P + nI 1)) := fun r hr => by rw [hr]; exact q2
    rw [DgoesOn]
    dsimp only
    rw [e38, hcs]
    refine ⟨p0, by omega, p0, by omega, fun z => absurd z f36, fun _ => ⟨fun z => absurd z f36', fun _ => ?_⟩⟩
    rw [e14, hcg, f17, k38, hcs, k38, hcs, k15, k15, k37, k37, hcu, e15, nI_inc S, nI_inc0]
    refine ⟨pg, hg, pg, hg, fun c => ⟨pg, hg, p0, by omega, by omega, pu, T _ ?_, trivial⟩, fun c => ⟨pg, hg, p0, by omega, by omega, pu, T _ ?_, trivial⟩⟩
    · have c' : P = S := (nI_eq (by omega) (by omega)).mp c
      rw [if_pos c'] at hq
      exact hq
    · have c' : ¬ P = S := fun z => c (by rw [z])
      rw [if_neg c'] at hq
      exact hq
  rw [ex, em]
  exact ⟨dx, dm, q3⟩
theorem goOn_2 {x : xD} {m : mD} {w v d g P : Nat} (h : R3 x m) (hw : isX w 6) (hnum : ∀ i, i < 8 → x.1 (w + 1) i = m 6 (5 + i)) (ho : iOpe m) (hv : v < 8) (hd4 : d < 4) (hg : g < 16) (hP : P < 32) (e35 : m 0 35 = 1) (e38 : m 0 38 = nI (4 * (v + 4) + d)) (e14 : m 14 (4 * (v + 4) + d) = nI g) (e15 : m 15 (4 * (v + 4) + d) = nI P) (e36 : m 0 36 = nI 2) (c2 : ¬ x.1 347 2 = 0) (c5 : x.1 347 5 = 0) (c9 : x.1 347 9 = nI 20) (c6 : x.1 347 6 = nI (v + 4)) (c7 : x.1 347 7 = nI d) (h5 : m 5 2 = -1) (htl : ¬ m 0 34 = 0) (hd : m 0 23 = 0 ∨ m 0 23 = 1) : DX3_goOn (w + 1) x ∧ DgoesOn m ∧ R3 (FX3_goOn (w + 1) x) (FgoesOn m) := by
  have hl := msg_lt hw
  obtain ⟨a1, a2, a3, a4, a5, a6⟩ := at_open h ho hv hd4 hg e14
  rw [e15] at a6
  have hcs : (nI (4 * (v + 4) + d)).toNatClampNeg = 4 * (v + 4) + d := nI_clamp (by omega)
  have pl : FX7_placeAt (x.1 347 6) (x.1 347 7) x = nI P := by rw [c6, c7]; exact a6
  obtain ⟨r1, r2, b1, b2, b3, b4, b5, b6, b7, b8⟩ := h
  have b6' : x.1 347 2 = m 0 35 ∧ x.1 347 4 = m 0 34 ∧ (m 0 35 = 1 → x.1 347 6 = m 0 37 ∧ m 0 38 = nI 4 * m 0 37 + x.1 347 7 ∧ x.1 347 9 = m 0 40 ∧ x.1 347 10 = m 0 41 ∧ x.1 347 5 = (if m 0 36 = 1 then 1 else 0) ∧ (¬ m 0 36 = 1 → x.1 347 8 = m 0 39) ∧ (m 0 40 = 21 → ∀ i, i < 8 → x.1 356 i = m 22 i)) := b6
  obtain ⟨f6, f7, -, f10, -, f8, -⟩ := b6'.2.2 e35
  have f8 : x.1 347 8 = m 0 39 := f8 (by rw [e36]; decide)
  have hG : ∀ i, i < 8 → gF (nI (P % 8)) (x.1 347 8) (x.1 (w + 1)) i = gF (nI (P % 8)) (m 0 39) (fun i => m 6 (5 + i)) i := fun i hi => by rw [gF, gF, f8, hnum i hi]
  generalize hX : fil x.1 356 0 8 (gF (nI (P % 8)) (x.1 347 8) (x.1 (w + 1))) = X
  generalize hM : mG2 (fil (ab_up m 0 35 (nI 0)) 22 0 8 (gF (nI (P % 8)) (m 0 39) (fun i => m 6 (5 + i)))) = M
  have xo : ∀ a j, ¬ a = 356 → X a j = x.1 a j := fun a j ha => by rw [← hX, fil_q ha]
  have mo : ∀ a j, ¬ (a = 0 ∧ (j = 35 ∨ j = 36 ∨ j = 40)) → ¬ a = 22 → M a j = m a j := fun a j h0 h22 => by rw [← hM, mG2, ab_up_na (by omega), ab_up_na (by omega), fil_q h22, ab_up_na (by omega)]
  have m40 : M 0 40 = nI 21 := by rw [← hM, mG2, ab_up_eq]
  have m36 : M 0 36 = nI 3 := by rw [← hM, mG2, ab_up_nj (by decide), ab_up_eq]
  have nums : ∀ i, i < 8 → X 356 i = M 22 i := fun i hi => by
    rw [← hX, ← hM, mG2, ab_up_ne (by decide), ab_up_ne (by decide), fil_in (by omega) (by omega), fil_in (by omega) (by omega), Nat.sub_zero]
    exact hG i hi
  have RM1 : RM (X, x.2) M := ((r1.fk (k := nI 21) (Or.inl rfl)).xc (x' := (X, x.2)) (fun _ _ _ _ => rfl) (fun p hp => xo (7 + 28 * p) 1 (by omega)) (fun p hp a j _ _ => xo a j (by omega)) (fun p hp => xo 3 p (by omega)) (xo 1 4 (by omega)) (xo 1 5 (by omega)) (xo 1 6 (by omega))).mc (fun i _ => by rw [mo 1 i (by omega) (by omega), ab_up_ne (by decide)]) (fun i _ => by rw [mo 2 i (by omega) (by omega), ab_up_ne (by decide)]) (fun i _ => by rw [mo 7 i (by omega) (by omega), ab_up_ne (by decide)]) (fun j hj => by
    by_cases e : j = 40
    · subst e; rw [m40, ab_up_eq]
    · rw [mo 0 j (by omega) (by omega), ab_up_nj e])
  have RH1 : RH (X, x.2) M := (r2.fk (k := nI 21) (Or.inl rfl)).fr (fun p hp j => ⟨xo (33 + 28 * p) j (by omega), xo (33 + 28 * p + 1) j (by omega)⟩) (fun i _ => by rw [mo 5 i (by omega) (by omega), ab_up_ne (by decide)]) (fun i _ => by rw [mo 4 i (by omega) (by omega), ab_up_ne (by decide)]) (by rw [m40, ab_up_eq]) (by rw [mo 0 34 (by omega) (by omega), ab_up_nj (by decide)])
  have A := ask_rel RM1 RH1 (by
    rw [m40]
    subst hX hM
    refine ⟨b1, b2, b3, b4, b5, ?_, b7, b8⟩
    show nI 1 = nI 1 ∧ x.1 347 4 = m 0 34 ∧ (nI 1 = 1 → x.1 347 6 = m 0 37 ∧ m 0 38 = nI 4 * m 0 37 + x.1 347 7 ∧ nI 21 = nI 21 ∧ x.1 347 10 = m 0 41 ∧ x.1 347 5 = (if nI 3 = 1 then 1 else 0) ∧ (¬ nI 3 = 1 → x.1 347 8 = m 0 39) ∧ (nI 21 = 21 → ∀ i, i < 8 → fil x.1 356 0 8 (gF (nI (P % 8)) (x.1 347 8) (x.1 (w + 1))) 356 i = mG2 (fil (ab_up m 0 35 (nI 0)) 22 0 8 (gF (nI (P % 8)) (m 0 39) (fun i => m 6 (5 + i)))) 22 i))
    exact ⟨rfl, b6'.2.1, fun _ => ⟨f6, f7, rfl, f10, by rw [c5, if_neg (by decide)], fun _ => f8, fun _ => nums⟩⟩) (Or.inr m40) (by rw [mo 5 2 (by omega) (by omega)]; exact h5) (by rw [mo 0 34 (by omega) (by omega)]; exact htl) (by rw [mo 0 23 (by omega) (by omega)]; exact hd)
  rw [m40] at A
  subst hX hM
  obtain ⟨l1, l2⟩ := FX3_goOn_51_l (c := x.1) (r := x.2) (f := w + 1) (W := nI (P % 8)) (isX_num hw) (shX_num hw) (by omega) A.1 9 0 (by omega) (by omega)
  rw [fil_0] at l1 l2
  have g39 : (ab_up m 0 35 (nI 0)) 0 39 = m 0 39 := ab_up_nj (by decide)
  have g6' : (fun i => (ab_up m 0 35 (nI 0)) 6 (5 + i)) = (fun i => m 6 (5 + i)) := by funext i; exact ab_up_ne (by decide)
  have hD := A.2.1
  obtain ⟨o1, o2⟩ := FgoesOn_79_l (m := ab_up m 0 35 (nI 0)) (P := P) (by omega) (by rw [g39, g6']; exact hD) 9 0 (by omega) (by omega)
  rw [fil_0, g39, g6'] at o1
  rw [fil_0] at o2
  have f36 : ¬ (ab_up m 0 35 (nI 0)) 0 36 = nI 1 := by rw [ab_up_nj (by decide), e36]; decide
  have f36' : (ab_up m 0 35 (nI 0)) 0 36 = nI 2 := by rw [ab_up_nj (by decide), e36]
  have ex : FX3_goOn (w + 1) x = FX3_ask (nI 21) (fil x.1 356 0 8 (gF (nI (P % 8)) (x.1 347 8) (x.1 (w + 1))), x.2) := by
    rw [FX3_goOn, if_neg c2, if_pos c5, if_pos c9, pl, fmP8 P (by omega)]
    exact l1
  have dx : DX3_goOn (w + 1) x := by
    have d1 : DX7_placeAt (x.1 347 6) (x.1 347 7) x := by rw [c6, c7]; exact a3
    refine ⟨fun z => absurd z c2, fun _ => ⟨d1, ⟨by decide, trivial⟩, fun _ => ⟨fun _ => ?_, fun z => absurd c9 z⟩, fun z => absurd c5 z⟩⟩
    rw [pl, fmP8 P (by omega)]
    exact l2
  have em : FgoesOn m = FasksDriver (mG2 (fil (ab_up m 0 35 (nI 0)) 22 0 8 (gF (nI (P % 8)) (m 0 39) (fun i => m 6 (5 + i))))) := by
    rw [FgoesOn]
    refine (if_neg f36).trans ((if_pos f36').trans ?_)
    rw [e38, hcs, e15]
    exact o1
  have dm : DgoesOn m := by
    have p0 : ¬ nI (4 * (v + 4) + d) < 0 := nI_pos (by omega)
    rw [DgoesOn]
    rw [e38, hcs]
    refine ⟨p0, by omega, p0, by omega, fun z => absurd z f36, fun _ => ⟨fun _ => ?_, fun z => absurd f36' z⟩⟩
    rw [e15]
    exact o2
  rw [ex, em]
  exact ⟨dx, dm, A.2.2⟩
