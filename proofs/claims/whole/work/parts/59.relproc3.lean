/-! PROCESSES, III: EXIT and KILL -/
def idx (j : Nat) : Int32 := if j = 0 then -1 else nI (j - 1)
theorem idx_0 : idx 0 = -1 := rfl
theorem idx_s (j : Nat) : idx (j + 1) = nI j := by rw [idx, if_neg (by omega), Nat.add_sub_cancel]
theorem idx_n {j : Nat} : nI j + -1 = idx j := by
  cases j with
  | zero => rfl
  | succ j => rw [idx_s]; exact pk_m1 j
theorem idx_m {M : Nat} : nI M - nI 1 = idx M := by
  cases M with
  | zero => rfl
  | succ M => rw [idx_s]; exact pk_sub (by omega)
theorem idx_neg : idx 0 < 0 := by decide
/-- messages of u among the first j of s taken out -/
def Fdl (s u : Nat) : Nat → mD → mD
  | 0, m => m
  | j + 1, m => if m 1 (13 * (12 * s + j) + 0) = nI u then Fdl s u j (mDrop s j m) else Fdl s u j m
theorem Fdl_o {s u : Nat} : ∀ (j : Nat) (m : mD) (a i : Nat), ¬ a = 1 → ¬ (a = 2 ∧ i = s) → Fdl s u j m a i = m a i := by
  intro j
  induction j with
  | zero => intros; rfl
  | succ j ih =>
    intro m a i h1 h2
    rw [Fdl]
    by_cases c : m 1 (13 * (12 * s + j) + 0) = nI u
    · rw [if_pos c, ih _ a i h1 h2, mDrop_o h1 h2]
    · rw [if_neg c, ih _ a i h1 h2]
theorem mDrop_2 {s k M : Nat} {m : mD} (hm : m 2 s = nI M) (hM : M ≤ 12) : mDrop s k m 2 s = nI (M - 1) := by
  rw [mDrop, ab_up_eq, hm, nI_clamp (by omega)]
theorem dropFrom_l {s u : Nat} (hs : s < 12) : ∀ (j n M : Nat) (x : xD) (m : mD), R3 x m → M ≤ 12 → m 2 s = nI M → j ≤ M → j < n → DX0_dropFrom_7 n (7 + 28 * s) (nI u) (idx j) x ∧ R3 (FX0_dropFrom_7 n (7 + 28 * s) (nI u) (idx j) x) (Fdl s u j m) := by
  intro j
  induction j with
  | zero =>
    intro n M x m h _ _ _ hn
    obtain ⟨n, rfl⟩ : ∃ n', n = n' + 1 := ⟨n - 1, by omega⟩
    rw [FX0_dropFrom_7, DX0_dropFrom_7, if_pos idx_neg, Fdl]
    exact ⟨⟨fun _ => trivial, fun z => absurd idx_neg z⟩, h⟩
  | succ j ih =>
    intro n M x m h hM hm hj hn
    obtain ⟨n, rfl⟩ : ∃ n', n = n' + 1 := ⟨n - 1, by omega⟩
    have e8 : 7 + 28 * s + 1 = 8 + 28 * s := by omega
    have c0 : ¬ nI j < 0 := nI_pos (by omega)
    have hc : (nI j).toNatClampNeg = j := nI_clamp (by omega)
    obtain ⟨M0, hM0, e1, e2, e3⟩ := h.1.2.1 s hs
    have eM : M0 = M := (nI_eq (by omega) (by omega)).mp (e1.symm.trans hm)
    subst eM
    have hx : isX (x.2 (8 + 28 * s) j) 6 := isX_xm h.1.1 hs (by omega)
    have es : x.1 (x.2 (8 + 28 * s) j) 1 = m 1 (13 * (12 * s + j) + 0) := (e3 j (by omega)).1
    rw [FX0_dropFrom_7, DX0_dropFrom_7, idx_s, if_neg c0, hc, e8, idx_n, Fdl, es]
    by_cases c : m 1 (13 * (12 * s + j) + 0) = nI u
    · obtain ⟨t1, t2⟩ := FX0_take_eq (p := s) (k := j) hs h.1.1 (show j < M0 by omega) hM e2
      obtain ⟨r1, r2, r3⟩ := drop_rel (p := s) (k := j) h.1 h.2.1 h.2.2 hs (show j < M0 by omega) hM e1
      obtain ⟨i1, i2⟩ := ih n (M0 - 1) (xTake s j M0 x) (mDrop s j m) ⟨r1, r2, r3⟩ (by omega) (mDrop_2 hm hM) (by omega) (by omega)
      rw [if_pos c, if_pos c, t1]
      exact ⟨⟨fun z => absurd z c0, fun _ => ⟨isX_box hs, c0, by omega, hx, fun _ => ⟨t2, i1⟩, fun z => absurd c z⟩⟩, i2⟩
    · obtain ⟨i1, i2⟩ := ih n M0 x m h hM hm (by omega) (by omega)
      rw [if_neg c, if_neg c]
      exact ⟨⟨fun z => absurd z c0, fun _ => ⟨isX_box hs, c0, by omega, hx, fun z => absurd z c, fun _ => i1⟩⟩, i2⟩
theorem Fends3_l {y w k : Int32} {u : Nat} : ∀ (j n M : Nat) (m : mD), M ≤ 12 → m 2 3 = nI M → j ≤ M → j < n → Fends_55_3 n y u w k (idx j) m = Fsends 3 2 (Fdrafts (nI 31) (nI u) (nI 0) (Fholds k y (nI u) (Fdl 3 u j m))) ∧ (Dsends 3 2 (Fdrafts (nI 31) (nI u) (nI 0) (Fholds k y (nI u) (Fdl 3 u j m))) → Dends_55_3 n y u w k (idx j) m) := by
  intro j
  induction j with
  | zero =>
    intro n M m _ _ _ hn
    obtain ⟨n, rfl⟩ : ∃ n', n = n' + 1 := ⟨n - 1, by omega⟩
    rw [Fends_55_3, Dends_55_3, if_pos idx_neg, Fdl]
    exact ⟨rfl, fun hD => ⟨fun _ => ⟨Ddrafts_ok _ _ _ _, hD, trivial⟩, fun z => absurd idx_neg z⟩⟩
  | succ j ih =>
    intro n M m hM hm hj hn
    obtain ⟨n, rfl⟩ : ∃ n', n = n' + 1 := ⟨n - 1, by omega⟩
    have c0 : ¬ nI j < 0 := nI_pos (by omega)
    have hc : (nI j).toNatClampNeg = j := nI_clamp (by omega)
    have df : Dfield 3 j 0 m := ⟨by omega, trivial⟩
    obtain ⟨d1, d2⟩ := Fdrop_eq (p := 3) (k := j) (m := m) (M := M) (by decide) hm (by omega) hM
    rw [Fends_55_3, Dends_55_3, idx_s, if_neg c0, hc, idx_n, Fdl, d1]
    by_cases c : m 1 (13 * (12 * 3 + j) + 0) = nI u
    · obtain ⟨i1, i2⟩ := ih n (M - 1) (mDrop 3 j m) (by omega) (mDrop_2 hm hM) (by omega) (by omega)
      have c' : Ffield 3 j 0 m = nI u := c
      rw [if_pos c, if_pos c']
      exact ⟨i1, fun hD => ⟨fun z => absurd z c0, fun _ => ⟨c0, df, fun _ => ⟨c0, d2, i2 hD⟩, fun z => absurd c' z⟩⟩⟩
    · obtain ⟨i1, i2⟩ := ih n M m hM hm (by omega) (by omega)
      have c' : ¬ Ffield 3 j 0 m = nI u := c
      rw [if_neg c, if_neg c']
      exact ⟨i1, fun hD => ⟨fun z => absurd z c0, fun _ => ⟨c0, df, fun z => absurd z c', fun _ => i2 hD⟩⟩⟩
theorem Fends2_l {y w k : Int32} {u : Nat} : ∀ (j n M : Nat) (m : mD), M ≤ 12 → m 2 2 = nI M → j ≤ M → j < n → Fends_55_2 n y u w k (idx j) m = Fends_55_3 14 y u w k (nI ((m 2 3).toNatClampNeg) - nI 1) (Fdl 2 u j m) ∧ (¬ m 2 3 < 0 → Dends_55_3 14 y u w k (nI ((m 2 3).toNatClampNeg) - nI 1) (Fdl 2 u j m) → Dends_55_2 n y u w k (idx j) m) := by
  intro j
  induction j with
  | zero =>
    intro n M m _ _ _ hn
    obtain ⟨n, rfl⟩ : ∃ n', n = n' + 1 := ⟨n - 1, by omega⟩
    rw [Fends_55_2, Dends_55_2, if_pos idx_neg, Fdl]
    exact ⟨rfl, fun hp hD => ⟨fun _ => ⟨hp, hD⟩, fun z => absurd idx_neg z⟩⟩
  | succ j ih =>
    intro n M m hM hm hj hn
    obtain ⟨n, rfl⟩ : ∃ n', n = n' + 1 := ⟨n - 1, by omega⟩
    have c0 : ¬ nI j < 0 := nI_pos (by omega)
    have hc : (nI j).toNatClampNeg = j := nI_clamp (by omega)
    have df : Dfield 2 j 0 m := ⟨by omega, trivial⟩
    obtain ⟨d1, d2⟩ := Fdrop_eq (p := 2) (k := j) (m := m) (M := M) (by decide) hm (by omega) hM
    rw [Fends_55_2, Dends_55_2, idx_s, if_neg c0, hc, idx_n, Fdl, d1]
    by_cases c : m 1 (13 * (12 * 2 + j) + 0) = nI u
    · obtain ⟨i1, i2⟩ := ih n (M - 1) (mDrop 2 j m) (by omega) (mDrop_2 hm hM) (by omega) (by omega)
      have e23 : mDrop 2 j m 2 3 = m 2 3 := mDrop_o (by decide) (by decide)
      rw [e23] at i1 i2
      have c' : Ffield 2 j 0 m = nI u := c
      rw [if_pos c, if_pos c']
      exact ⟨i1, fun hp hD => ⟨fun z => absurd z c0, fun _ => ⟨c0, df, fun _ => ⟨c0, d2, i2 hp hD⟩, fun z => absurd c' z⟩⟩⟩
    · obtain ⟨i1, i2⟩ := ih n M m hM hm (by omega) (by omega)
      have c' : ¬ Ffield 2 j 0 m = nI u := c
      rw [if_neg c, if_neg c']
      exact ⟨i1, fun hp hD => ⟨fun z => absurd z c0, fun _ => ⟨c0, df, fun z => absurd z c', fun _ => i2 hp hD⟩⟩⟩
/-- who ends: before its messages are taken out -/
def xE1 (u : Nat) (w : Int32) (c : mD) : mD := ab_up (ab_up (ab_up (ab_up c 360 u (nI 1)) 359 u w) 361 u (nI 0)) 363 u (nI 0)
def mE1 (u : Nat) (w : Int32) (m : mD) : mD := ab_up (ab_up (ab_up (ab_up (ab_up m 7 u (nI 2)) 12 u w) 8 u (nI 0)) 13 u (nI 0)) 2 u (nI 0)
theorem mE1_o {u : Nat} {w : Int32} {m : mD} {a j : Nat} (h : ¬ (j = u ∧ (a = 7 ∨ a = 12 ∨ a = 8 ∨ a = 13 ∨ a = 2))) : mE1 u w m a j = m a j := by
  rw [mE1, ab_up_na (by omega), ab_up_na (by omega), ab_up_na (by omega), ab_up_na (by omega), ab_up_na (by omega)]
theorem xE1_o {u : Nat} {w : Int32} {c : mD} {a j : Nat} (h : a < 359) : xE1 u w c a j = c a j := by
  rw [xE1, ab_up_ne (by omega), ab_up_ne (by omega), ab_up_ne (by omega), ab_up_ne (by omega)]
theorem end1_rel {x : xD} {m : mD} {u : Nat} {w : Int32} (h : R3 x m) (hu : u < 12) (hu4 : 4 ≤ u) (h5 : m 5 u = -1) : R3 (xEnd u (xE1 u w x.1, x.2)) (mE1 u w m) := by
  obtain ⟨r1, r2, b1, b2, b3, b4, b5, b6, b7, b8⟩ := h
  obtain ⟨c1, c2⟩ := RMH.rest (x' := (xE1 u w x.1, x.2)) (m' := m) r1 r2 rfl (fun q j _ hq => xE1_o (by omega)) (fun _ _ _ => rfl) (fun _ _ => rfl)
  have mo : ∀ a j, ¬ (j = u ∧ (a = 7 ∨ a = 12 ∨ a = 8 ∨ a = 13 ∨ a = 2)) → mE1 u w m a j = m a j := fun a j => mE1_o
  have m2 : mE1 u w m 2 u = nI 0 := by rw [mE1, ab_up_eq]
  have m7 : mE1 u w m 7 u = nI 2 := by rw [mE1, ab_up_ne (by decide), ab_up_ne (by decide), ab_up_ne (by decide), ab_up_ne (by decide), ab_up_eq]
  refine ⟨RM.end_ c1 hu (fun i _ => mo 1 i (by omega)) m2 (fun q _ hq => mo 2 q (by omega)) ?_ (fun q hq hqu => Flives_congr (mo 0 23 (by omega)) (mo 7 q (by omega))) (fun j hj => mo 0 j (by omega)), RH.end_ c2 hu (by rw [mo 5 u (by omega)]; exact h5) (fun q _ _ => mo 5 q (by omega)) (fun i _ => mo 4 i (by omega)) (mo 0 40 (by omega)) (mo 0 34 (by omega)), ?_⟩
  · rw [Flives_u hu hu4, m7, if_neg (by decide)]
  · refine RR.fr (c := xE1 u w x.1) (m := mE1 u w m) ?_ (fun a j ha => xEnd_b hu ha) (fun _ _ _ => rfl)
    refine ⟨b1, b2, b3, b4, b5, b6, ?_, ?_⟩
    · have b7' : (∀ u, u < 12 → 4 ≤ u → x.1 358 u = m 11 u ∧ x.1 359 u = m 12 u ∧ x.1 360 u = (if m 7 u = 2 then 1 else 0) ∧ x.1 361 u = m 13 u) ∧ x.1 357 4 = m 0 43 ∧ (m 0 43 = 1 → x.1 357 5 = (if m 0 44 = 8 then 1 else 0) ∧ x.1 357 6 = m 0 46 ∧ x.1 357 7 = (if m 0 44 = 9 then -1 else m 0 45)) := b7
      show (∀ v, v < 12 → 4 ≤ v → x.1 358 v = m 11 v ∧ ab_up x.1 359 u w 359 v = ab_up m 12 u w 12 v ∧ ab_up x.1 360 u (nI 1) 360 v = (if ab_up m 7 u (nI 2) 7 v = 2 then 1 else 0) ∧ ab_up x.1 361 u (nI 0) 361 v = ab_up m 13 u (nI 0) 13 v) ∧ x.1 357 4 = m 0 43 ∧ (m 0 43 = 1 → x.1 357 5 = (if m 0 44 = 8 then 1 else 0) ∧ x.1 357 6 = m 0 46 ∧ x.1 357 7 = (if m 0 44 = 9 then -1 else m 0 45))
      refine ⟨fun v hv hv4 => ?_, b7'.2⟩
      obtain ⟨q1, q2, q3, q4⟩ := b7'.1 v hv hv4
      by_cases e : v = u
      · subst e
        rw [ab_up_eq, ab_up_eq, ab_up_eq, ab_up_eq, ab_up_eq, ab_up_eq]
        exact ⟨q1, rfl, by decide, rfl⟩
      · rw [ab_up_nj e, ab_up_nj e, ab_up_nj e, ab_up_nj e, ab_up_nj e, ab_up_nj e]
        exact ⟨q1, q2, q3, q4⟩
    · intro v hv hv4
      have c8 : x.1 363 v = m 8 v ∧ x.1 364 v = m 9 v ∧ x.1 365 v = m 10 v := b8 v hv hv4
      show ab_up x.1 363 u (nI 0) 363 v = ab_up m 8 u (nI 0) 8 v ∧ x.1 364 v = m 9 v ∧ x.1 365 v = m 10 v
      refine ⟨?_, c8.2⟩
      by_cases e : v = u
      · subst e; rw [ab_up_eq, ab_up_eq]
      · rw [ab_up_nj e, ab_up_nj e]; exact c8.1
theorem end_rel {x : xD} {m : mD} {u : Nat} {w l y k : Int32} (h : R3 x m) (hu : u < 12) (hu4 : 4 ≤ u) (h5u : m 5 u = -1) (hd : m 0 23 = 0 ∨ m 0 23 = 1) (h5 : m 5 3 = -1) (htl : ¬ m 0 34 = 0) (hk : (k = nI 9 ∧ l = -1) ∨ (k = nI 11 ∧ l = y)) : DX8_end (nI u) w l x ∧ Dends y u w k m ∧ R3 (FX8_end (nI u) w l x) (Fends y u w k m) := by
  have hcu : (nI u).toNatClampNeg = u := nI_clamp (by omega)
  have hux := userX hu hu4
  have pu := nI_pos (n := u) (by omega)
  have E1 := end1_rel (w := w) h hu hu4 h5u
  obtain ⟨x1, x2⟩ := FX1_end_eq (p := u) (x := (xE1 u w x.1, x.2)) hu
  have sc : ∀ z : xD, FX9_setCall (nI u) (nI 0) z = (ab_up z.1 363 u (nI 0), z.2) ∧ DX9_setCall (nI u) (nI 0) z := fun z => by
    rw [FX9_setCall, DX9_setCall, if_neg hux, hcu]
    exact ⟨rfl, fun e => absurd e hux, fun _ => ⟨pu, hu, Or.inl nI00, trivial⟩⟩
  obtain ⟨M2, hM2, e2, e2x, -⟩ := E1.1.2.1 2 (by decide)
  obtain ⟨g1, g2⟩ := dropFrom_l (s := 2) (u := u) (by decide) M2 13 M2 _ _ E1 hM2 e2 (by omega) (by omega)
  have ee2 : (xEnd u (xE1 u w x.1, x.2)).1 63 1 - nI 1 = idx M2 := by
    have : (xEnd u (xE1 u w x.1, x.2)).1 63 1 = nI M2 := e2x
    rw [this, idx_m]
  have G1 : FX0_dropFrom 63 (nI u) (xEnd u (xE1 u w x.1, x.2)) = FX0_dropFrom_7 13 (7 + 28 * 2) (nI u) (idx M2) (xEnd u (xE1 u w x.1, x.2)) := by rw [FX0_dropFrom, ee2]
  have G1D : DX0_dropFrom 63 (nI u) (xEnd u (xE1 u w x.1, x.2)) := by
    rw [DX0_dropFrom, ee2]
    exact ⟨isX_box (j := 2) (by decide), g1⟩
  rw [← G1] at g2
  obtain ⟨M3, hM3, e3, e3x, -⟩ := g2.1.2.1 3 (by decide)
  obtain ⟨k1, k2⟩ := dropFrom_l (s := 3) (u := u) (by decide) M3 13 M3 _ _ g2 hM3 e3 (by omega) (by omega)
  have ee3 : (FX0_dropFrom 63 (nI u) (xEnd u (xE1 u w x.1, x.2))).1 91 1 - nI 1 = idx M3 := by
    have : (FX0_dropFrom 63 (nI u) (xEnd u (xE1 u w x.1, x.2))).1 91 1 = nI M3 := e3x
    rw [this, idx_m]
  have G2 : FX0_dropFrom 91 (nI u) (FX0_dropFrom 63 (nI u) (xEnd u (xE1 u w x.1, x.2))) = FX0_dropFrom_7 13 (7 + 28 * 3) (nI u) (idx M3) (FX0_dropFrom 63 (nI u) (xEnd u (xE1 u w x.1, x.2))) := by rw [FX0_dropFrom, ee3]
  have G2D : DX0_dropFrom 91 (nI u) (FX0_dropFrom 63 (nI u) (xEnd u (xE1 u w x.1, x.2))) := by
    rw [DX0_dropFrom, ee3]
    exact ⟨isX_box (j := 3) (by decide), k1⟩
  rw [← G2] at k2
  have e23 : (mE1 u w m) 2 3 = nI M3 := by rw [← e3]; exact (Fdl_o M2 _ 2 3 (by decide) (by decide)).symm
  obtain ⟨p1, p2⟩ := Fends2_l (y := y) (w := w) (k := k) (u := u) M2 14 M2 (mE1 u w m) hM2 e2 (by omega) (by omega)
  obtain ⟨q1, q2⟩ := Fends3_l (y := y) (w := w) (k := k) (u := u) M3 14 M3 (Fdl 2 u M2 (mE1 u w m)) hM3 e3 (by omega) (by omega)
  have c3 : nI (((mE1 u w m) 2 3).toNatClampNeg) - nI 1 = idx M3 := by rw [e23, nI_clamp (by omega), idx_m]
  rw [c3] at p1 p2
  have n23 : ¬ (mE1 u w m) 2 3 < 0 := by rw [e23]; exact nI_pos (by omega)
  have fo : ∀ a j, ¬ a = 1 → ¬ a = 2 → ¬ (j = u ∧ (a = 7 ∨ a = 12 ∨ a = 8 ∨ a = 13 ∨ a = 2)) → Fdl 3 u M3 (Fdl 2 u M2 (mE1 u w m)) a j = m a j := fun a j h1 h2 h3 => by
    rw [Fdl_o _ _ _ _ h1 (fun z => h2 z.1), Fdl_o _ _ _ _ h1 (fun z => h2 z.1), mE1_o h3]
  have H := holds_rel (f := nI 0) (w := nI u) (a := l) (k := k) (y := y) k2 (by
    rcases hk with z | z
    · rw [z.1]; decide
    · rw [z.1]; decide) (by
    rcases hk with z | z
    · rw [z.1, z.2]; rfl
    · rw [z.1, z.2]; rfl)
  obtain ⟨t1, t2, t3, -⟩ := sendR (f := 3) (t := 2) (k := nI 31) (a := nI u) (b := nI 0) H (by decide) (by decide) (by rw [Fholds_o (by omega), fo 0 23 (by omega) (by omega) (by omega)]; exact hd) (by decide) (by decide) (by rw [Fholds_o (by omega), fo 5 3 (by omega) (by omega) (by omega)]; exact h5) (by rw [Fholds_o (by omega), fo 0 34 (by omega) (by omega) (by omega)]; exact htl)
  have em : Fends y u w k m = Fsends 3 2 (Fdrafts (nI 31) (nI u) (nI 0) (Fholds k y (nI u) (Fdl 3 u M3 (Fdl 2 u M2 (mE1 u w m))))) := by
    have : Fends y u w k m = Fends_55_2 14 y u w k (nI (((mE1 u w m) 2 2).toNatClampNeg) - nI 1) (mE1 u w m) := rfl
    rw [this, e2, nI_clamp (by omega), idx_m, p1, q1]
  have dm : Dends y u w k m := by
    have d : Dends_55_2 14 y u w k (nI (((mE1 u w m) 2 2).toNatClampNeg) - nI 1) (mE1 u w m) := by
      rw [e2, nI_clamp (by omega), idx_m]
      exact p2 n23 (q2 t2)
    have n22 : ¬ (mE1 u w m) 2 2 < 0 := by rw [e2]; exact nI_pos (by omega)
    exact ⟨hu, hu, hu, hu, hu, n22, d⟩
  have z12 : FX9_setCall (nI u) (nI 0) (ab_up (ab_up (ab_up x.1 360 u (nI 1)) 359 u w) 361 u (nI 0), x.2) = (xE1 u w x.1, x.2) := (sc _).1
  have ex : FX8_end (nI u) w l x = FX1_send (nI 3) (nI 2) (nI 31) (nI u) (nI 0) (FX8_waitFor (nI 0) (nI u) l (FX0_dropFrom 91 (nI u) (FX0_dropFrom 63 (nI u) (xEnd u (xE1 u w x.1, x.2))))) := by
    rw [FX8_end, if_neg hux, hcu]
    dsimp only
    rw [z12, x1]
  have dx : DX8_end (nI u) w l x := by
    rw [DX8_end, hcu]
    dsimp only
    rw [z12, x1]
    exact ⟨fun z => absurd z hux, fun _ => ⟨pu, hu, pu, hu, pu, hu, (sc _).2, x2, G1D, G2D, DX8_waitFor_ok (Or.inl nI00), t1, trivial⟩⟩
  rw [ex, em]
  exact ⟨dx, dm, t3⟩
