/-! FILES, IX: 22, class against reference -/
theorem goOn_1 {x : xD} {m : mD} {w v d g P : Nat} (h : R3 x m) (hw : isX w 6) (hnum : ∀ i, i < 8 → x.1 (w + 1) i = m 6 (5 + i)) (ho : iOpe m) (hv : v < 8) (hd4 : d < 4) (hg : g < 16) (hP : P < 32) (e37 : m 0 37 = nI (v + 4)) (e38 : m 0 38 = nI (4 * (v + 4) + d)) (e14 : m 14 (4 * (v + 4) + d) = nI g) (e15 : m 15 (4 * (v + 4) + d) = nI P) (e36 : m 0 36 = nI 1) (c2 : ¬ x.1 347 2 = 0) (c5 : ¬ x.1 347 5 = 0) (c6 : x.1 347 6 = nI (v + 4)) (c7 : x.1 347 7 = nI d) (h5 : m 5 2 = -1) (htl : ¬ m 0 34 = 0) (hd : m 0 23 = 0 ∨ m 0 23 = 1) : DX3_goOn (w + 1) x ∧ DgoesOn m ∧ R3 (FX3_goOn (w + 1) x) (FgoesOn m) := by
  have hl := msg_lt hw
  obtain ⟨a1, a2, a3, a4, a5, a6⟩ := at_open h ho hv hd4 hg e14
  rw [e15] at a6
  have hcs : (nI (4 * (v + 4) + d)).toNatClampNeg = 4 * (v + 4) + d := nI_clamp (by omega)
  have hcu : (nI (v + 4)).toNatClampNeg = v + 4 := nI_clamp (by omega)
  have hcp : (nI (P % 8)).toNatClampNeg = P % 8 := nI_clamp (by omega)
  have U := unwait_rel h
  have o14 : (ab_up m 0 35 (nI 0)) 14 (4 * (v + 4) + d) = nI g := e14
  obtain ⟨s1, s2⟩ := FX7_setPlace_eq (q := nI P + nI 1) U (show iOpe (ab_up m 0 35 (nI 0)) from ho) hv hd4 hg o14
  have Z := place_rel (q := nI P + nI 1) U hv hd4
  obtain ⟨q1, q2, q3, -⟩ := tells_rel (f := 2) (u := v + 4) (v := m 6 (5 + P % 8)) Z (by decide) (by omega) (by omega) hd h5 htl
  have y5 : ¬ ab_up x.1 347 2 (nI 0) 347 5 = 0 := by rw [ab_up_nj (by decide)]; exact c5
  have y6 : ab_up x.1 347 2 (nI 0) 347 6 = nI (v + 4) := by rw [ab_up_nj (by decide)]; exact c6
  have y7 : ab_up x.1 347 2 (nI 0) 347 7 = nI d := by rw [ab_up_nj (by decide)]; exact c7
  have pl : FX7_placeAt (x.1 347 6) (x.1 347 7) x = nI P := by rw [c6, c7]; exact a6
  have sp : FX7_setPlace (ab_up x.1 347 2 (nI 0) 347 6) (ab_up x.1 347 2 (nI 0) 347 7) (FX7_placeAt (x.1 347 6) (x.1 347 7) x + nI 1) (ab_up x.1 347 2 (nI 0), x.2) = (ab_up (ab_up x.1 347 2 (nI 0)) 355 (4 * v + d) (nI P + nI 1), x.2) := by rw [y6, y7, pl]; exact s1
  have z5 : ¬ ab_up (ab_up x.1 347 2 (nI 0)) 355 (4 * v + d) (nI P + nI 1) 347 5 = 0 := by rw [ab_up_ne (by decide)]; exact y5
  have z6 : ab_up (ab_up x.1 347 2 (nI 0)) 355 (4 * v + d) (nI P + nI 1) 347 6 = nI (v + 4) := by rw [ab_up_ne (by decide)]; exact y6
  have zf : ab_up (ab_up x.1 347 2 (nI 0)) 355 (4 * v + d) (nI P + nI 1) (w + 1) (P % 8) = m 6 (5 + P % 8) := by rw [ab_up_ne (by omega), ab_up_ne (by omega)]; exact hnum _ (by omega)
  have ex : FX3_goOn (w + 1) x = FX1_send (nI 2) (nI (v + 4)) (nI 50) (m 6 (5 + P % 8)) (nI 0) (ab_up (ab_up x.1 347 2 (nI 0)) 355 (4 * v + d) (nI P + nI 1), x.2) := by
    rw [FX3_goOn, if_neg c2, if_neg c5]
    refine (if_neg y5).trans ?_
    refine (if_neg ?_).trans ?_
    · intro z
      have z' : (FX7_setPlace (ab_up x.1 347 2 (nI 0) 347 6) (ab_up x.1 347 2 (nI 0) 347 7) (FX7_placeAt (x.1 347 6) (x.1 347 7) x + nI 1) (ab_up x.1 347 2 (nI 0), x.2)).1 347 5 = 0 := z
      rw [sp] at z'
      exact z5 z'
    · dsimp only
      rw [sp, pl, fmP8 P (by omega), hcp]
      dsimp only
      rw [z6, zf]
  have dx : DX3_goOn (w + 1) x := by
    have d1 : DX7_placeAt (x.1 347 6) (x.1 347 7) x := by rw [c6, c7]; exact a3
    have d2 : DX7_setPlace (ab_up x.1 347 2 (nI 0) 347 6) (ab_up x.1 347 2 (nI 0) 347 7) (nI P + nI 1) (ab_up x.1 347 2 (nI 0), x.2) := by rw [y6, y7]; exact s2
    have sp2 : FX7_setPlace (ab_up x.1 347 2 (nI 0) 347 6) (ab_up x.1 347 2 (nI 0) 347 7) (nI P + nI 1) (ab_up x.1 347 2 (nI 0), x.2) = (ab_up (ab_up x.1 347 2 (nI 0)) 355 (4 * v + d) (nI P + nI 1), x.2) := by rw [← pl]; rw [pl]; rw [← sp, pl]
    refine ⟨fun z => absurd z c2, fun _ => ⟨d1, ⟨by decide, trivial⟩, fun z => absurd z c5, fun _ => ⟨fun z => absurd z y5, fun _ => ?_⟩⟩⟩
    dsimp only
    rw [pl, sp2, fmP8 P (by omega), hcp]
    dsimp only
    rw [z6, zf, shX_num hw]
    exact ⟨d2, fun z => absurd z z5, fun _ => ⟨nI_pos (by omega), isX_num hw, by omega, by decide, q1, trivial⟩⟩
  have e5 : nI 5 + nI (P % 8) = nI (5 + P % 8) := nI_add _ _
  have hc5 : (nI (5 + P % 8)).toNatClampNeg = 5 + P % 8 := nI_clamp (by omega)
  have f38 : (ab_up m 0 35 (nI 0)) 0 38 = nI (4 * (v + 4) + d) := e38
  have f15 : (ab_up m 0 35 (nI 0)) 15 (4 * (v + 4) + d) = nI P := e15
  have f36 : (ab_up m 0 35 (nI 0)) 0 36 = nI 1 := e36
  have f37 : (ab_up (ab_up m 0 35 (nI 0)) 15 (4 * (v + 4) + d) (nI P + nI 1)) 0 37 = nI (v + 4) := e37
  have f6 : (ab_up (ab_up m 0 35 (nI 0)) 15 (4 * (v + 4) + d) (nI P + nI 1)) 6 (5 + P % 8) = m 6 (5 + P % 8) := rfl
  have em : FgoesOn m = Ftells 2 (v + 4) (m 6 (5 + P % 8)) (ab_up (ab_up m 0 35 (nI 0)) 15 (4 * (v + 4) + d) (nI P + nI 1)) := by
    rw [FgoesOn]
    refine (if_pos f36).trans ?_
    dsimp only
    rw [f38, hcs, e38, hcs, f15, e15, pk_rem (show P < 2 ^ 31 by omega) (by decide) (by decide), e5, hc5, f37, hcu, f6]
  have dm : DgoesOn m := by
    rw [DgoesOn]
    dsimp only
    rw [f38, hcs, e38, hcs, f15, e15, pk_rem (show P < 2 ^ 31 by omega) (by decide) (by decide), e5, hc5, f37, hcu, f6]
    have p0 : ¬ nI (4 * (v + 4) + d) < 0 := nI_pos (by omega)
    exact ⟨p0, by omega, p0, by omega, fun _ => ⟨p0, by omega, by omega, nI_pos (by omega), by omega, nI_pos (by omega), q2, trivial⟩, fun z => absurd f36 z⟩
  rw [ex, em]
  exact ⟨dx, dm, q3⟩
