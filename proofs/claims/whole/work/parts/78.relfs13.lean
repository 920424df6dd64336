/-! FILES, XIII: its turn, class against reference -/
theorem bit3 : ∀ v, v < 12 → (((nI 3 >>> (nI v &&& 31)) &&& nI 1) = nI 1 ↔ nI v ≤ nI 1) := by decide +kernel
def iFiM (m : mD) : Prop := ∀ k M, M ≤ 12 → m 2 2 = nI M → k < M → msgF (fun i => m 1 (13 * (12 * 2 + k) + i))
theorem Ffiles_11_l {M f : Nat} {m : mD} (hM : M ≤ 12) (hm : m 2 2 = nI M) (h35 : ¬ m 0 35 = 0) (hf : f ≤ M) (h1 : ∀ j, j < f → ¬ (m 1 (13 * (12 * 2 + j) + 1) = 0 ∨ m 1 (13 * (12 * 2 + j) + 0) ≤ nI 1)) (h2 : f < M → (m 1 (13 * (12 * 2 + f) + 1) = 0 ∨ m 1 (13 * (12 * 2 + f) + 0) ≤ nI 1)) (hs : f < M → DtakeOut 2 f m ∧ Dfgo (FtakeOut 2 f m)) : ∀ (n k : Nat), k ≤ f → f - k < n → Ffiles_11 n k m = (if f < M then Ffgo (FtakeOut 2 f m) else m) ∧ Dfiles_11 n k m := by
  have hc : (m 2 2).toNatClampNeg = M := by rw [hm]; exact nI_clamp (by omega)
  have hp : ¬ m 2 2 < 0 := by rw [hm]; exact nI_pos (by omega)
  intro n
  induction n with
  | zero => intro k _ h; omega
  | succ n ih =>
    intro k hk hn
    rw [Ffiles_11, Dfiles_11, if_neg h35, hc]
    by_cases hkM : M ≤ k
    · have ek : k = M := by omega
      have ef : ¬ f < M := by omega
      rw [if_pos hkM, if_pos ek, if_neg ef]
      exact ⟨rfl, fun z => absurd z h35, fun _ => ⟨hp, by omega, by omega, fun _ => ⟨hp, by omega, by omega, fun _ => trivial, fun z => absurd ek z⟩, fun z => absurd hkM z⟩⟩
    · have ek : ¬ k = M := by omega
      have df : ∀ w, w < 2 → Dfield 2 k w m := fun w hw => ⟨by omega, trivial⟩
      have f0 : Ffield 2 k 0 m = m 1 (13 * (12 * 2 + k) + 0) := rfl
      have f1 : Ffield 2 k 1 m = m 1 (13 * (12 * 2 + k) + 1) := rfl
      rw [if_neg hkM, f0, f1]
      by_cases hkf : k = f
      · subst hkf
        obtain ⟨s1, s2⟩ := hs (by omega)
        rw [if_pos (show k < M by omega)]
        by_cases c0 : m 1 (13 * (12 * 2 + k) + 0) ≤ nI 1
        · rw [if_pos c0, if_neg ek]
          generalize FtakeOut 2 k m = t at *
          exact ⟨rfl, fun z => absurd z h35, fun _ => ⟨hp, by omega, by omega, fun z => absurd z hkM, fun _ => ⟨df 0 (by decide), fun _ => ⟨hp, by omega, by omega, fun z => absurd z ek, fun _ => ⟨s1, s2⟩⟩, fun z => absurd c0 z⟩⟩⟩
        · have c1 := (h2 (by omega)).resolve_right c0
          rw [if_neg c0, if_pos c1, if_neg ek]
          generalize FtakeOut 2 k m = t at *
          exact ⟨rfl, fun z => absurd z h35, fun _ => ⟨hp, by omega, by omega, fun z => absurd z hkM, fun _ => ⟨df 0 (by decide), fun z => absurd z c0, fun _ => ⟨df 1 (by decide), fun _ => ⟨hp, by omega, by omega, fun z => absurd z ek, fun _ => ⟨s1, s2⟩⟩, fun z => absurd c1 z⟩⟩⟩⟩
      · have hn1 := h1 k (by omega)
        have c0 : ¬ m 1 (13 * (12 * 2 + k) + 0) ≤ nI 1 := fun z => hn1 (Or.inr z)
        have c1 : ¬ m 1 (13 * (12 * 2 + k) + 1) = 0 := fun z => hn1 (Or.inl z)
        obtain ⟨i1, i2⟩ := ih (k + 1) (by omega) (by omega)
        rw [if_neg c0, if_neg c1]
        exact ⟨i1, fun z => absurd z h35, fun _ => ⟨hp, by omega, by omega, fun z => absurd z hkM, fun _ => ⟨df 0 (by decide), fun z => absurd z c0, fun _ => ⟨df 1 (by decide), fun z => absurd z c1, fun _ => i2⟩⟩⟩⟩
theorem Ffiles_11_0 {M : Nat} {m : mD} (hM : M ≤ 12) (hm : m 2 2 = nI M) (h35 : m 0 35 = 0) (hs : 0 < M → DtakeOut 2 0 m ∧ Dfgo (FtakeOut 2 0 m)) {n : Nat} : Ffiles_11 (n + 1) 0 m = (if 0 < M then Ffgo (FtakeOut 2 0 m) else m) ∧ Dfiles_11 (n + 1) 0 m := by
  have hc : (m 2 2).toNatClampNeg = M := by rw [hm]; exact nI_clamp (by omega)
  have hp : ¬ m 2 2 < 0 := by rw [hm]; exact nI_pos (by omega)
  rw [Ffiles_11, Dfiles_11, if_pos h35, hc]
  by_cases e : 0 = M
  · rw [if_pos e, if_neg (show ¬ 0 < M by omega)]
    exact ⟨rfl, fun _ => ⟨hp, by omega, by omega, fun _ => trivial, fun z => absurd e z⟩, fun z => absurd h35 z⟩
  · obtain ⟨s1, s2⟩ := hs (by omega)
    rw [if_neg e, if_pos (show 0 < M by omega)]
    generalize FtakeOut 2 0 m = t at *
    exact ⟨rfl, fun _ => ⟨hp, by omega, by omega, fun z => absurd z e, fun _ => ⟨s1, s2⟩⟩, fun z => absurd h35 z⟩
/-- taking a message of FILES leaves what iFls speaks of -/
theorem iFls.take {m : mD} {k M : Nat} (h : iFls m) (hk : k < M) (hM : M ≤ 12) (hm : m 2 2 = nI M) : iFls (mTake 2 k m) := by
  obtain ⟨a1, a2, a3, a4, a5, a6, a7, a8, a9, a10⟩ := h
  have mo : ∀ a j, a ≠ 1 → ¬ (a = 2 ∧ j = 2) → a ≠ 6 → mTake 2 k m a j = m a j := fun a j => mTake_o
  have m0 : ∀ j, mTake 2 k m 0 j = m 0 j := fun j => mo 0 j (by decide) (by omega) (by decide)
  have m14 : ∀ j, mTake 2 k m 14 j = m 14 j := fun j => mo 14 j (by decide) (by omega) (by decide)
  have m15 : ∀ j, mTake 2 k m 15 j = m 15 j := fun j => mo 15 j (by decide) (by omega) (by decide)
  have m16 : ∀ j, mTake 2 k m 16 j = m 16 j := fun j => mo 16 j (by decide) (by omega) (by decide)
  have m17 : ∀ j, mTake 2 k m 17 j = m 17 j := fun j => mo 17 j (by decide) (by omega) (by decide)
  have m18 : ∀ j, mTake 2 k m 18 j = m 18 j := fun j => mo 18 j (by decide) (by omega) (by decide)
  refine ⟨fun u d hu hd => by rw [m14]; exact a1 u d hu hd, fun v d g hv hd hg => by rw [m14, m15, m16, m17]; exact a2 v d g hv hd hg, fun i hi => by rw [m16]; exact a3 i hi, ⟨fun i hi => by rw [m16]; intro z b hb; rw [m18]; exact a4.1 i hi z b hb, ?_⟩, fun k2 hk2 => by rw [m14]; exact a5 k2 hk2, fun i hi => by rw [m18]; exact a6 i hi, fun i hi => ?_, ?_, by rw [m0]; exact a9, ?_⟩
  · have e : (fun i => decide (mTake 2 k m 16 i = 1)) = (fun i => decide (m 16 i = 1)) := by funext i; rw [m16]
    rw [e]; exact a4.2
  · rw [m16, m17, m0]
    intro z
    obtain ⟨S, b1, b2, b3, b4⟩ := a7 i hi z
    exact ⟨S, b1, b2, fun b hb => by rw [m18]; exact b3 b hb, fun y b hb => by rw [m18]; exact b4 y b hb⟩
  · intro z
    rw [m0] at z
    obtain ⟨v, d, g, P, S, B, h1⟩ := a8 z
    refine ⟨v, d, g, P, S, B, ?_⟩
    rw [m0, m0, m0, m0, m0, m14, m15, m16, m17, m18]
    exact h1
  · rw [m0]
    intro z
    obtain ⟨n1, n2⟩ := a10 z
    refine ⟨fun p M2 j hp hM2 he hj => ?_, fun p hp => ?_⟩
    · by_cases ep : p = 2
      · subst ep
        have e2 : mTake 2 k m 2 2 = nI (M - 1) := by
          rw [mTake]
          exact mDrop_2 (by rw [fil_q (by decide)]; exact hm) hM
        have eM : M2 = M - 1 := (nI_eq (by omega) (by omega)).mp (he.symm.trans e2)
        subst eM
        have hcM : (fil m 6 0 13 (fun i => m 1 (13 * (12 * 2 + k) + i)) 2 2).toNatClampNeg = M := by rw [fil_q (by decide), hm, nI_clamp (by omega)]
        have e1 : mTake 2 k m 1 (13 * (12 * 2 + j) + 1) = (if k ≤ j then m 1 (13 * (12 * 2 + (j + 1)) + 1) else m 1 (13 * (12 * 2 + j) + 1)) := by
          rw [mTake, mDrop, ab_up_ne (by decide), hcM]
          by_cases c : k ≤ j
          · rw [if_pos c, fil_in (by omega) (by omega), fil_q (by decide), show 13 * (12 * 2 + k) + (13 * (12 * 2 + j) + 1 - 13 * (12 * 2 + k)) + 13 = 13 * (12 * 2 + (j + 1)) + 1 by omega]
          · rw [if_neg c, fil_out (by omega), fil_q (by decide)]
        rw [e1]
        by_cases c : k ≤ j
        · rw [if_pos c]; exact n1 2 M (j + 1) (by decide) hM hm (by omega)
        · rw [if_neg c]; exact n1 2 M j (by decide) hM hm (by omega)
      · have e2 : mTake 2 k m 2 p = m 2 p := mo 2 p (by decide) (by omega) (by decide)
        have e1 : mTake 2 k m 1 (13 * (12 * p + j) + 1) = m 1 (13 * (12 * p + j) + 1) := by
          have hcM : (fil m 6 0 13 (fun i => m 1 (13 * (12 * 2 + k) + i)) 2 2).toNatClampNeg = M := by rw [fil_q (by decide), hm, nI_clamp (by omega)]
          rw [mTake, mDrop, ab_up_ne (by decide), hcM, fil_out (by omega), fil_q (by decide)]
        rw [e1]
        exact n1 p M2 j hp hM2 (e2.symm.trans he) hj
    · rw [mo 5 p (by decide) (by omega) (by decide), mo 4 (13 * p + 1) (by decide) (by omega) (by decide)]
      exact n2 p hp
theorem ftake_rel {x : xD} {m : mD} {k M : Nat} (h : R3 x m) (hd : m 0 23 = 0 ∨ m 0 23 = 1) (h5 : m 5 2 = -1) (htl : ¬ m 0 34 = 0) (hi : iFls m) (hf : iFiM m) (hk : k < M) (hM : M ≤ 12) (hm : m 2 2 = nI M) (hsel : ¬ m 0 35 = 0 → (m 1 (13 * (12 * 2 + k) + 1) = 0 ∨ m 1 (13 * (12 * 2 + k) + 0) ≤ nI 1)) : DtakeOut 2 k m ∧ DXfgo (xm x 2 k) (some (xm x 2 k), xTake 2 k M x) ∧ Dfgo (FtakeOut 2 k m) ∧ R3 (FXfgo (xm x 2 k) (some (xm x 2 k), xTake 2 k M x)) (Ffgo (FtakeOut 2 k m)) := by
  obtain ⟨o1, o2⟩ := FtakeOut_eq (p := 2) (k := k) (by decide) hm hk hM
  obtain ⟨r1, r2, r3, r4⟩ := take_rel (p := 2) (k := k) h.1 h.2.1 h.2.2 (by decide) hk hM hm
  have hw : isX (xm x 2 k) 6 := isX_xm h.1.1 (by decide) (by omega)
  have mo : ∀ a j, a ≠ 1 → ¬ (a = 2 ∧ j = 2) → a ≠ 6 → mTake 2 k m a j = m a j := fun a j => mTake_o
  have e6 : ∀ i, i < 13 → mTake 2 k m 6 i = m 1 (13 * (12 * 2 + k) + i) := fun i hi => mTake_6 hi
  have hmsg := hf k M hM hm hk
  have hmsg' : msgF (mTake 2 k m 6) := by
    obtain ⟨s, hs, es, hk2⟩ := hmsg
    refine ⟨s, hs, by rw [e6 0 (by decide)]; exact es, ?_⟩
    rw [e6 1 (by decide), e6 2 (by decide), e6 3 (by decide)]
    exact hk2
  have P := fgo_rel (x := xTake 2 k M x) (m := mTake 2 k m) (w := xm x 2 k) (o := some (xm x 2 k)) ⟨r1, r2, r3⟩ hw (by rw [mo 0 40 (by decide) (by decide) (by decide)]; exact r4) hmsg' (fun z => by
    rw [mo 0 35 (by decide) (by decide) (by decide)]
    rw [e6 1 (by decide)] at z
    apply Classical.byContradiction
    intro y
    obtain ⟨s, hs, es, hk2⟩ := hmsg
    have es : m 1 (13 * (12 * 2 + k) + 0) = nI s := es
    have z0 : ¬ m 1 (13 * (12 * 2 + k) + 1) = 0 := by rcases z with q | q | q | q | q | q | q <;> rw [q] <;> decide
    have hle := (hsel y).resolve_left z0
    rw [es] at hle
    have s1 : s ≤ 1 := (nI_leI (by omega) (by decide)).mp hle
    have hk2 : (m 1 (13 * (12 * 2 + k) + 1) = 0 ∨ (4 ≤ s ∧ _) ∨ m 1 (13 * (12 * 2 + k) + 1) = nI 22 ∨ (m 1 (13 * (12 * 2 + k) + 1) = nI 30 ∧ _) ∨ (m 1 (13 * (12 * 2 + k) + 1) = nI 31 ∧ _) ∨ (m 1 (13 * (12 * 2 + k) + 1) = nI 42 ∧ _)) := hk2
    have bad : ∀ c : Int32, (¬ nI 1 = c ∧ ¬ nI 2 = c ∧ ¬ nI 3 = c ∧ ¬ nI 4 = c ∧ ¬ nI 5 = c ∧ ¬ nI 6 = c ∧ ¬ nI 7 = c) → ¬ m 1 (13 * (12 * 2 + k) + 1) = c := fun c hc q => by
      rcases z with y | y | y | y | y | y | y
      · exact hc.1 (y.symm.trans q)
      · exact hc.2.1 (y.symm.trans q)
      · exact hc.2.2.1 (y.symm.trans q)
      · exact hc.2.2.2.1 (y.symm.trans q)
      · exact hc.2.2.2.2.1 (y.symm.trans q)
      · exact hc.2.2.2.2.2.1 (y.symm.trans q)
      · exact hc.2.2.2.2.2.2 (y.symm.trans q)
    rcases hk2 with q | q | q | q | q | q
    · exact z0 q
    · omega
    · exact bad (nI 22) (by decide) q
    · exact bad (nI 30) (by decide) q.1
    · exact bad (nI 31) (by decide) q.1
    · exact bad (nI 42) (by decide) q.1) (hi.take hk hM hm) (by rw [mo 5 2 (by decide) (by decide) (by decide)]; exact h5) (by rw [mo 0 34 (by decide) (by decide) (by decide)]; exact htl) (by rw [mo 0 23 (by decide) (by decide) (by decide)]; exact hd)
  rw [o1]
  exact ⟨o2, P.1, P.2.1, P.2.2⟩
theorem FX3_takeTurn_0 {x : xD} (h : x.1 347 2 = 0) : FX3_takeTurn x = ab_o (FX0_take 63 (nI 0) x).1 (FX0_take 63 (nI 0) x).2 (fun w => FXfgo w (FX0_take 63 (nI 0) x)) := by
  rw [FX3_takeTurn, if_pos h]
  rfl
theorem FX3_takeTurn_1 {x : xD} (h : ¬ x.1 347 2 = 0) : FX3_takeTurn x = ab_o (FX0_take 63 (FX0_firstFor 63 (nI 3) x) x).1 (FX0_take 63 (FX0_firstFor 63 (nI 3) x) x).2 (fun w => FXfgo w (FX0_take 63 (FX0_firstFor 63 (nI 3) x) x)) := by
  rw [FX3_takeTurn, if_neg h]
  rfl
theorem DX3_takeTurn_of {x : xD} (h0 : x.1 347 2 = 0 → DX0_take 63 (nI 0) x ∧ ∀ w : Nat, (FX0_take 63 (nI 0) x).1 = some w → DXfgo w (FX0_take 63 (nI 0) x)) (h1 : ¬ x.1 347 2 = 0 → DX0_firstFor 63 (nI 3) x ∧ DX0_take 63 (FX0_firstFor 63 (nI 3) x) x ∧ ∀ w : Nat, (FX0_take 63 (FX0_firstFor 63 (nI 3) x) x).1 = some w → DXfgo w (FX0_take 63 (FX0_firstFor 63 (nI 3) x) x)) : DX3_takeTurn x :=
  ⟨fun z => ⟨(h0 z).1, fun _ => trivial, (h0 z).2⟩, fun z => ⟨(h1 z).1, (h1 z).2.1, fun _ => trivial, (h1 z).2.2⟩⟩
theorem files_rel {x : xD} {m : mD} (h : R3 x m) (hd : m 0 23 = 0 ∨ m 0 23 = 1) (h5 : m 5 2 = -1) (htl : ¬ m 0 34 = 0) (hi : iFls m) (hfm : iFiM m) : DX3_takeTurn x ∧ Dfiles_11 14 0 m ∧ R3 (FX3_takeTurn x) (Ffiles_11 14 0 m) := by
  obtain ⟨M, hM, e1, e2, e3⟩ := h.1.2.1 2 (by decide)
  have c35 : x.1 347 2 = m 0 35 := h.2.2.2.2.2.2.2.1.1
  by_cases z : m 0 35 = 0
  · have zx : x.1 347 2 = 0 := c35.trans z
    by_cases h0 : 0 < M
    · obtain ⟨p1, p3, p4, p5⟩ := ftake_rel (k := 0) h hd h5 htl hi hfm h0 hM e1 (fun y => absurd z y)
      obtain ⟨t1, t2⟩ := FX0_take_eq (p := 2) (k := 0) (by decide) h.1.1 h0 hM e2
      have t1 : FX0_take 63 (nI 0) x = (some (xm x 2 0), xTake 2 0 M x) := t1
      have t2 : DX0_take 63 (nI 0) x := t2
      obtain ⟨f1, f2⟩ := Ffiles_11_0 (n := 13) hM e1 z (fun _ => ⟨p1, p4⟩)
      rw [if_pos h0] at f1
      rw [FX3_takeTurn_0 zx, f1, t1, ab_o_s rfl]
      refine ⟨DX3_takeTurn_of (fun _ => ⟨t2, fun w hw => ?_⟩) (fun y => absurd zx y), f2, p5⟩
      rw [t1] at hw ⊢
      cases hw
      exact p3
    · obtain ⟨t1, t2⟩ := FX0_take_no (x := x) (p := 2) (i := nI 0) (by decide) (Or.inr (by rw [e2, show M = 0 by omega]; decide))
      have t1 : FX0_take 63 (nI 0) x = (none, x) := t1
      have t2 : DX0_take 63 (nI 0) x := t2
      obtain ⟨f1, f2⟩ := Ffiles_11_0 (n := 13) hM e1 z (fun y => absurd y h0)
      rw [if_neg h0] at f1
      rw [FX3_takeTurn_0 zx, f1, t1, ab_o_n rfl]
      refine ⟨DX3_takeTurn_of (fun _ => ⟨t2, fun w hw => ?_⟩) (fun y => absurd zx y), f2, h⟩
      rw [t1] at hw
      cases hw
  · have zx : ¬ x.1 347 2 = 0 := by rw [c35]; exact z
    obtain ⟨f, hf, f1, f2⟩ := first_ex (fun j => m 1 (13 * (12 * 2 + j) + 1) = 0 ∨ m 1 (13 * (12 * 2 + j) + 0) ≤ nI 1) M
    have ek : ∀ k, k < M → (x.1 (xm x 2 k) 2 = 0 ∨ ((nI 3 >>> (x.1 (xm x 2 k) 1 &&& 31)) &&& nI 1) = nI 1 ↔ (m 1 (13 * (12 * 2 + k) + 1) = 0 ∨ m 1 (13 * (12 * 2 + k) + 0) ≤ nI 1)) := fun k hk => by
      obtain ⟨s, hs, es, -⟩ := hfm k M hM e1 hk
      have es : m 1 (13 * (12 * 2 + k) + 0) = nI s := es
      have s1 : x.1 (xm x 2 k) 1 = m 1 (13 * (12 * 2 + k) + 0) := (e3 k hk).1
      have s2 : x.1 (xm x 2 k) 2 = m 1 (13 * (12 * 2 + k) + 1) := (e3 k hk).2.1
      rw [s1, s2, es, bit3 s hs]
    obtain ⟨q1, q2⟩ := FX0_firstFor_l (p := 2) (w := nI 3) (by decide) h.1.1 hM e2 hf (fun j hj => fun y => f1 j hj ((ek j (by omega)).mp y)) (fun hj => (ek f hj).mpr (f2 hj)) 13 0 (by omega) (by omega)
    have q1 : FX0_firstFor 63 (nI 3) x = (if f < M then nI f else -1) := q1
    have q2 : DX0_firstFor 63 (nI 3) x := q2
    by_cases hfM : f < M
    · obtain ⟨p1, p3, p4, p5⟩ := ftake_rel (k := f) h hd h5 htl hi hfm hfM hM e1 (fun _ => f2 hfM)
      obtain ⟨t1, t2⟩ := FX0_take_eq (p := 2) (k := f) (by decide) h.1.1 hfM hM e2
      have t1 : FX0_take 63 (nI f) x = (some (xm x 2 f), xTake 2 f M x) := t1
      have t2 : DX0_take 63 (nI f) x := t2
      obtain ⟨g1, g2⟩ := Ffiles_11_l hM e1 z hf f1 f2 (fun _ => ⟨p1, p4⟩) 14 0 (by omega) (by omega)
      rw [if_pos hfM] at g1 q1
      rw [FX3_takeTurn_1 zx, g1, q1, t1, ab_o_s rfl]
      refine ⟨DX3_takeTurn_of (fun y => absurd y zx) (fun _ => ?_), g2, p5⟩
      rw [q1, t1]
      refine ⟨q2, t2, fun w hw => ?_⟩
      cases hw
      exact p3
    · obtain ⟨t1, t2⟩ := FX0_take_no (x := x) (p := 2) (i := -1) (by decide) (Or.inl (by decide))
      have t1 : FX0_take 63 (-1) x = (none, x) := t1
      have t2 : DX0_take 63 (-1) x := t2
      obtain ⟨g1, g2⟩ := Ffiles_11_l hM e1 z hf f1 f2 (fun y => absurd y hfM) 14 0 (by omega) (by omega)
      rw [if_neg hfM] at g1 q1
      rw [FX3_takeTurn_1 zx, g1, q1, t1, ab_o_n rfl]
      refine ⟨DX3_takeTurn_of (fun y => absurd y zx) (fun _ => ?_), g2, h⟩
      rw [q1, t1]
      refine ⟨q2, t2, fun w hw => ?_⟩
      cases hw
def FXfil (x : xD) : xD := if (FX1_sendHeld (nI 2) x).1 = 0 then FX3_takeTurn (FX1_sendHeld (nI 2) x).2 else (FX1_sendHeld (nI 2) x).2
theorem files_turn {x : xD} {m : mD} (h : R3 x m) (htl : ¬ m 0 34 = 0) (hd : m 0 23 = 0 ∨ m 0 23 = 1) (hi : iFls m) (hfm : iFiM m) : DX1_sendHeld (nI 2) x ∧ ((FX1_sendHeld (nI 2) x).1 = 0 → DX3_takeTurn (FX1_sendHeld (nI 2) x).2) ∧ Dfiles m ∧ R3 (FXfil x) (Ffiles m) := by
  obtain ⟨h1, h2, hc⟩ := held_rel (p := 2) h.1 h.2.1 (by decide) hd htl
  rcases hc with ⟨c1, c2, c3⟩ | ⟨x', m', c1, c2, c3, c4, c5, c6, c7⟩
  · obtain ⟨g1, g2, g3⟩ := files_rel h hd c1 htl hi hfm
    rw [FXfil, Ffiles, Dfiles, c2, c3]
    dsimp only
    rw [if_pos nI00, if_pos nI00]
    exact ⟨h1, fun _ => g1, ⟨h2, fun _ => g2, fun _ => trivial⟩, g3⟩
  · rw [FXfil, Ffiles, Dfiles, c2, c3]
    dsimp only
    rw [if_neg nI10, if_neg nI10]
    exact ⟨h1, fun z => absurd z nI10, ⟨h2, fun z => absurd z nI10, fun _ => trivial⟩, c4, c5, h.2.2.send c6 c7⟩
