/-! THE DRIVER's TURN, II: it works -/
theorem mDrop_o {p k : Nat} {m : mD} {a j : Nat} (h1 : a ≠ 1) (h2 : ¬ (a = 2 ∧ j = p)) : mDrop p k m a j = m a j := by
  rw [mDrop]
  by_cases e : a = 2
  · subst e; rw [ab_up_nj (fun z => h2 ⟨rfl, z⟩), fil_q h1]
  · rw [ab_up_ne e, fil_q h1]
theorem drop_rel {x : xD} {m : mD} {p k M : Nat} (h : RM x m) (hH : RH x m) (hR : RR x.1 m) (hp : p < 12) (hk : k < M) (hM : M ≤ 12) (hm : m 2 p = nI M) : RM (xTake p k M x) (mDrop p k m) ∧ RH (xTake p k M x) (mDrop p k m) ∧ RR (xTake p k M x).1 (mDrop p k m) :=
  ⟨h.drop hp hk hM hm, hH.fr (fun p2 hp2 j => ⟨xTake_o (by omega), xTake_o (by omega)⟩) (fun p2 _ => mDrop_o (by decide) (by omega)) (fun i _ => mDrop_o (by decide) (by omega)) (mDrop_o (by decide) (by omega)) (mDrop_o (by decide) (by omega)), hR.fr (fun a j ha => xTake_o (by omega)) (fun a j ha => mDrop_o (by omega) (by omega))⟩
/-- the state at which the driver's 22 goes out -/
def mD20 (B : Nat) (m : mD) : mD := ab_up (fil (mDr (nI 22) (nI 0) (nI 0) m) 3 5 8 (fun i => m 20 (8 * B + i))) 0 27 (nI 0)
def mD21 (B : Nat) (m : mD) : mD := ab_up (fil (mDr (nI 22) (nI 0) (nI 0) m) 20 (8 * B) 8 (m 21)) 0 27 (nI 0)
theorem Fworks_47_20 {B : Nat} {m : mD} (hB : B < 24) (h27 : m 0 27 = nI 20) (h28 : m 0 28 = nI B) (hs : Dsends 1 2 (mD20 B m)) : ∀ (n k : Nat), k ≤ 8 → 8 - k < n → Fworks_47 n k (fil (mDr (nI 22) (nI 0) (nI 0) m) 3 5 k (fun i => m 20 (8 * B + i))) = Fsends 1 2 (mD20 B m) ∧ Dworks_47 n k (fil (mDr (nI 22) (nI 0) (nI 0) m) 3 5 k (fun i => m 20 (8 * B + i))) := by
  have hc : (nI B).toNatClampNeg = B := nI_clamp (by omega)
  intro n
  induction n with
  | zero => intro k _ h; omega
  | succ n ih =>
    intro k hk hn2
    by_cases h : 8 ≤ k
    · have e : k = 8 := by omega
      subst e
      rw [Fworks_47, if_pos h]
      exact ⟨rfl, by decide, fun _ => ⟨hs, trivial⟩, fun z => absurd h z⟩
    · obtain ⟨h1, h2⟩ := ih (k + 1) (by omega) (by omega)
      have e := fil_s (m := mDr (nI 22) (nI 0) (nI 0) m) (q := 3) (lo := 5) (k := k) (g := fun i => m 20 (8 * B + i))
      have r27 : fil (mDr (nI 22) (nI 0) (nI 0) m) 3 5 k (fun i => m 20 (8 * B + i)) 0 27 = nI 20 := by rw [fil_q (by decide), mDr_q (by decide), h27]
      have r28 : fil (mDr (nI 22) (nI 0) (nI 0) m) 3 5 k (fun i => m 20 (8 * B + i)) 0 28 = nI B := by rw [fil_q (by decide), mDr_q (by decide), h28]
      have r20 : fil (mDr (nI 22) (nI 0) (nI 0) m) 3 5 k (fun i => m 20 (8 * B + i)) 20 (8 * B + k) = m 20 (8 * B + k) := by rw [fil_q (by decide), mDr_q (by decide)]
      rw [Fworks_47, Dworks_47, if_neg h, if_pos r27]
      dsimp only
      rw [r28, hc, r20, e]
      exact ⟨h1, by omega, fun z => absurd z h, fun _ => ⟨fun _ => ⟨nI_pos (by omega), by omega, by omega, h2⟩, fun z => absurd r27 z⟩⟩
theorem Fworks_47_21 {B : Nat} {m : mD} (hB : B < 24) (h27 : m 0 27 = nI 21) (h28 : m 0 28 = nI B) (hs : Dsends 1 2 (mD21 B m)) : ∀ (n k : Nat), k ≤ 8 → 8 - k < n → Fworks_47 n k (fil (mDr (nI 22) (nI 0) (nI 0) m) 20 (8 * B) k (m 21)) = Fsends 1 2 (mD21 B m) ∧ Dworks_47 n k (fil (mDr (nI 22) (nI 0) (nI 0) m) 20 (8 * B) k (m 21)) := by
  have hc : (nI B).toNatClampNeg = B := nI_clamp (by omega)
  intro n
  induction n with
  | zero => intro k _ h; omega
  | succ n ih =>
    intro k hk hn2
    by_cases h : 8 ≤ k
    · have e : k = 8 := by omega
      subst e
      rw [Fworks_47, if_pos h]
      exact ⟨rfl, by decide, fun _ => ⟨hs, trivial⟩, fun z => absurd h z⟩
    · obtain ⟨h1, h2⟩ := ih (k + 1) (by omega) (by omega)
      have e := fil_s (m := mDr (nI 22) (nI 0) (nI 0) m) (q := 20) (lo := 8 * B) (k := k) (g := m 21)
      have r27 : ¬ fil (mDr (nI 22) (nI 0) (nI 0) m) 20 (8 * B) k (m 21) 0 27 = nI 20 := by rw [fil_q (by decide), mDr_q (by decide), h27]; decide
      have r28 : fil (mDr (nI 22) (nI 0) (nI 0) m) 20 (8 * B) k (m 21) 0 28 = nI B := by rw [fil_q (by decide), mDr_q (by decide), h28]
      have r21 : fil (mDr (nI 22) (nI 0) (nI 0) m) 20 (8 * B) k (m 21) 21 k = m 21 k := by rw [fil_q (by decide), mDr_q (by decide)]
      rw [Fworks_47, Dworks_47, if_neg h, if_neg r27]
      dsimp only
      rw [r28, hc, r21, e]
      exact ⟨h1, by omega, fun z => absurd z h, fun _ => ⟨fun z => absurd z r27, fun _ => ⟨nI_pos (by omega), by omega, by omega, h2⟩⟩⟩
/-- the class's state at which the driver's 22 goes out -/
def xD22 (G : Nat) (c : mD) : mD := fil (xW (33 + 28 * 1) (nI 1) (nI 22) (nI 0) (nI 0) (ab_up c 344 4 (-1))) (33 + 28 * 1 + 1) 0 8 (fun i => c 345 (G + i))
theorem send22_eq {G : Nat} {c : mD} {r : Nat → Nat → Nat} (hG : G + 8 ≤ 192) (hp : DX1_post (33 + 28 * 1) (nI 2) (xD22 G c, r)) :
    (ab_o (FX1_draft (nI 1) (nI 22) (nI 0) (nI 0) (ab_up c 344 4 (-1), r)).1 (FX1_draft (nI 1) (nI 22) (nI 0) (nI 0) (ab_up c 344 4 (-1), r)).2 (fun w => (FX1_post w (nI 2) (FX6_setNumbers w 345 (nI G) (FX1_draft (nI 1) (nI 22) (nI 0) (nI 0) (ab_up c 344 4 (-1), r)).2)).2)) = (FX1_post (33 + 28 * 1) (nI 2) (xD22 G c, r)).2 ∧
    ((DX1_draft (nI 1) (nI 22) (nI 0) (nI 0) (ab_up c 344 4 (-1), r)) ∧ ((FX1_draft (nI 1) (nI 22) (nI 0) (nI 0) (ab_up c 344 4 (-1), r)).1 = none → True) ∧ (∀ w : Nat, (FX1_draft (nI 1) (nI 22) (nI 0) (nI 0) (ab_up c 344 4 (-1), r)).1 = some w → (isX w 6) ∧ (DX6_setNumbers w 345 (nI G) (FX1_draft (nI 1) (nI 22) (nI 0) (nI 0) (ab_up c 344 4 (-1), r)).2) ∧ (DX1_post w (nI 2) (FX6_setNumbers w 345 (nI G) (FX1_draft (nI 1) (nI 22) (nI 0) (nI 0) (ab_up c 344 4 (-1), r)).2)) ∧ True)) := by
  obtain ⟨d1, d2⟩ := FX1_draft_eq (f := 1) (k := nI 22) (a := nI 0) (b := nI 0) (x := (ab_up c 344 4 (-1), r)) (by decide)
  obtain ⟨n1, n2⟩ := FX6_setNumbers_eq (s := 33 + 28 * 1) (q := 345) (G := G) (L := 192) (x := (xW (33 + 28 * 1) (nI 1) (nI 22) (nI 0) (nI 0) (ab_up c 344 4 (-1)), r)) (isX_dra (by decide)) ⟨by decide, rfl⟩ rfl hG (by decide) (by decide)
  have e : FX6_setNumbers (33 + 28 * 1) 345 (nI G) (xW (33 + 28 * 1) (nI 1) (nI 22) (nI 0) (nI 0) (ab_up c 344 4 (-1)), r) = (xD22 G c, r) := by
    rw [n1]
    have ef : (fun i => (xW (33 + 28 * 1) (nI 1) (nI 22) (nI 0) (nI 0) (ab_up c 344 4 (-1)), r).1 345 (G + i)) = (fun i => c 345 (G + i)) := by
      funext i
      show xW (33 + 28 * 1) (nI 1) (nI 22) (nI 0) (nI 0) (ab_up c 344 4 (-1)) 345 (G + i) = _
      rw [xW_o (by decide), ab_up_ne (by decide)]
    rw [ef]
    rfl
  refine ⟨?_, d2, fun _ => trivial, ?_⟩
  · rw [ab_o_s (congrArg Prod.fst d1), d1]
    dsimp only
    rw [e]
  · rw [d1]
    intro w hw
    cases hw
    dsimp only
    rw [e]
    exact ⟨isX_dra (by decide), n2, hp, trivial⟩
theorem FX2_work_56_l {G : Nat} {c : mD} {r : Nat → Nat → Nat} (hG : G + 8 ≤ 192) (hp : DX1_post (33 + 28 * 1) (nI 2) (xD22 G (fil c 345 G 8 (c 346)), r)) : ∀ (n k : Nat), k ≤ 8 → 8 - k < n → FX2_work_56 n (nI G) k (fil c 345 G k (c 346), r) = (FX1_post (33 + 28 * 1) (nI 2) (xD22 G (fil c 345 G 8 (c 346)), r)).2 ∧ DX2_work_56 n (nI G) k (fil c 345 G k (c 346), r) := by
  intro n
  induction n with
  | zero => intro k _ h; omega
  | succ n ih =>
    intro k hk hn2
    by_cases h : 8 ≤ k
    · have e : k = 8 := by omega
      subst e
      obtain ⟨s1, s2⟩ := send22_eq hG hp
      rw [FX2_work_56, if_pos h]
      exact ⟨s1, by decide, fun _ => s2, fun z => absurd h z⟩
    · obtain ⟨h1, h2⟩ := ih (k + 1) (by omega) (by omega)
      have e := fil_s (m := c) (q := 345) (lo := G) (k := k) (g := c 346)
      have ea : nI G + nI k = nI (G + k) := nI_add G k
      have cc : (nI (G + k)).toNatClampNeg = G + k := nI_clamp (by omega)
      rw [FX2_work_56, DX2_work_56, if_neg h, ea, cc]
      dsimp only
      rw [fil_q (by decide), e]
      exact ⟨h1, by omega, fun z => absurd z h, fun _ => ⟨by omega, nI_pos (by omega), by omega, h2⟩⟩
theorem Fdriver_18_end {n k : Nat} {m : mD} (hp : ¬ m 2 1 < 0) (hk : k < 100) (hc : (m 2 1).toNatClampNeg ≤ k) (d : Ddr0 m) : Fdriver_18 (n + 1) k m = Fdr0 m ∧ Ddriver_18 (n + 1) k m := by
  rw [Fdriver_18, Ddriver_18, if_pos hc, Fdr0]
  rw [Ddr0] at d
  have e2 := fun t : mD => (Fdriver_140_eq (m := t)).2
  generalize FtakeOut 1 0 m = t at *
  generalize Fworks m = t2 at *
  generalize DtakeOut 1 0 m = P1 at *
  generalize Dworks m = P2 at *
  obtain ⟨d1, d2⟩ := d
  refine ⟨?_, hp, by omega, by omega, fun _ => ⟨fun j0 => ⟨hp, fun _ => trivial, fun j1 => ⟨d1 j0 j1, fun _ => e2 _, fun _ => ⟨fun _ => e2 _, fun _ => trivial⟩⟩⟩, fun j0 => ⟨d2 j0, trivial⟩⟩, fun z => absurd hc z⟩
  rw [Fbeg]
theorem Fdriver_18_40 {n k : Nat} {m : mD} (hp : ¬ m 2 1 < 0) (hk : k < 12) (hc : k < (m 2 1).toNatClampNeg) (h12 : (m 2 1).toNatClampNeg ≤ 12) (hw : m 1 (13 * (12 * 1 + k) + 1) = nI 40) (s1 : Ddrop 1 k m) (s2 : Dsends 1 0 (Fdrafts (nI 41) (nI 0) (nI 0) (Fdrop 1 k m))) : Fdriver_18 (n + 1) k m = Fsends 1 0 (Fdrafts (nI 41) (nI 0) (nI 0) (Fdrop 1 k m)) ∧ Ddriver_18 (n + 1) k m := by
  have hc' : ¬ (m 2 1).toNatClampNeg ≤ k := by omega
  have df : Dfield 1 k 1 m := ⟨by omega, trivial⟩
  have hw : Ffield 1 k 1 m = nI 40 := hw
  have dd := Ddrafts_ok (nI 41) (nI 0) (nI 0) (Fdrop 1 k m)
  rw [Fdriver_18, Ddriver_18, if_neg hc', if_pos hw]
  dsimp only
  generalize Fdrop 1 k m = t at *
  generalize Fdrafts (nI 41) (nI 0) (nI 0) t = t2 at *
  generalize Fsends 1 0 t2 = t3 at *
  exact ⟨rfl, hp, by omega, by omega, fun z => absurd z hc', fun _ => ⟨df, fun _ => ⟨s1, dd, s2, trivial⟩, fun z => absurd hw z⟩⟩
theorem Fdriver_18_go {n k : Nat} {m : mD} (hp : ¬ m 2 1 < 0) (hk : k < 12) (hc : k < (m 2 1).toNatClampNeg) (h12 : (m 2 1).toNatClampNeg ≤ 12) (hw : ¬ m 1 (13 * (12 * 1 + k) + 1) = nI 40) : Fdriver_18 (n + 1) k m = Fdriver_18 n (k + 1) m ∧ (Ddriver_18 n (k + 1) m → Ddriver_18 (n + 1) k m) := by
  have hc' : ¬ (m 2 1).toNatClampNeg ≤ k := by omega
  have df : Dfield 1 k 1 m := ⟨by omega, trivial⟩
  have hw : ¬ Ffield 1 k 1 m = nI 40 := hw
  rw [Fdriver_18, Ddriver_18, if_neg hc', if_neg hw]
  generalize Ddriver_18 n (k + 1) m = P
  exact ⟨rfl, fun i2 => ⟨hp, by omega, by omega, fun z => absurd z hc', fun _ => ⟨df, fun z => absurd z hw, fun _ => i2⟩⟩⟩
theorem Fdriver_18_l {M f : Nat} {m : mD} (hM : M ≤ 12) (hm : m 2 1 = nI M) (hf : f ≤ M) (h1 : ∀ j, j < f → ¬ m 1 (13 * (12 * 1 + j) + 1) = nI 40) (h2 : f < M → m 1 (13 * (12 * 1 + f) + 1) = nI 40) (hs : f < M → Ddrop 1 f m ∧ Dsends 1 0 (Fdrafts (nI 41) (nI 0) (nI 0) (Fdrop 1 f m))) (h0 : ¬ f < M → Ddr0 m) : ∀ (n k : Nat), k ≤ f → f - k < n → Fdriver_18 n k m = (if f < M then Fsends 1 0 (Fdrafts (nI 41) (nI 0) (nI 0) (Fdrop 1 f m)) else Fdr0 m) ∧ Ddriver_18 n k m := by
  have hc : (m 2 1).toNatClampNeg = M := by rw [hm]; exact nI_clamp (by omega)
  have hp : ¬ m 2 1 < 0 := by rw [hm]; exact nI_pos (by omega)
  intro n
  induction n with
  | zero => intro k _ h; omega
  | succ n ih =>
    intro k hk hn
    by_cases hkM : M ≤ k
    · have ef : ¬ f < M := by omega
      rw [if_neg ef]
      exact Fdriver_18_end hp (by omega) (by omega) (h0 ef)
    · by_cases hkf : k = f
      · subst hkf
        obtain ⟨s1, s2⟩ := hs (by omega)
        rw [if_pos (show k < M by omega)]
        exact Fdriver_18_40 hp (by omega) (by omega) (by omega) (h2 (by omega)) s1 s2
      · obtain ⟨g1, g2⟩ := Fdriver_18_go (n := n) hp (show k < 12 by omega) (by omega) (by omega) (h1 k (by omega))
        obtain ⟨i1, i2⟩ := ih (k + 1) (by omega) (by omega)
        exact ⟨g1.trans i1, g2 i2⟩
