/-! FILES, V: READ -/
def no22 (m : mD) : Prop := (∀ p M j, p < 12 → M ≤ 12 → m 2 p = nI M → j < M → ¬ m 1 (13 * (12 * p + j) + 1) = nI 22) ∧ ∀ p, p < 12 → ¬ m 5 p = -1 → ¬ m 4 (13 * p + 1) = nI 22
def xHand (u e r w b : Int32) (c : mD) : mD := ab_up (ab_up (ab_up (ab_up (ab_up c 347 6 u) 347 7 e) 347 5 r) 347 8 w) 347 10 b
def mHand (u s w st k b : Int32) (m : mD) : mD := ab_up (ab_up (ab_up (ab_up (ab_up (ab_up m 0 37 u) 0 38 s) 0 39 w) 0 36 st) 0 40 k) 0 41 b
theorem xHand_o {u e r w b : Int32} {c : mD} {a j : Nat} (h : ¬ a = 347) : xHand u e r w b c a j = c a j := by
  rw [xHand, ab_up_ne h, ab_up_ne h, ab_up_ne h, ab_up_ne h, ab_up_ne h]
theorem mHand_o {u s w st k b : Int32} {m : mD} {a j : Nat} (h : ¬ (a = 0 ∧ 36 ≤ j ∧ j ≤ 41)) : mHand u s w st k b m a j = m a j := by
  rw [mHand, ab_up_na (by omega), ab_up_na (by omega), ab_up_na (by omega), ab_up_na (by omega), ab_up_na (by omega), ab_up_na (by omega)]
theorem hand_ask {x : xD} {m : mD} {v d : Nat} {r w w' st k b : Int32} (h : R3 x m) (hv : v < 8) (hd4 : d < 4) (hr : r = (if st = 1 then 1 else 0)) (hw : ¬ st = 1 → w = w') (hk : (k = nI 20 ∧ no22 m) ∨ (k = nI 21 ∧ ∀ i, i < 8 → x.1 356 i = m 22 i)) (h5 : m 5 2 = -1) (htl : ¬ m 0 34 = 0) (hd : m 0 23 = 0 ∨ m 0 23 = 1) : DX3_ask k (xHand (nI (v + 4)) (nI d) r w b x.1, x.2) ∧ DasksDriver (mHand (nI (v + 4)) (nI (4 * (v + 4) + d)) w' st k b m) ∧ R3 (FX3_ask k (xHand (nI (v + 4)) (nI d) r w b x.1, x.2)) (FasksDriver (mHand (nI (v + 4)) (nI (4 * (v + 4) + d)) w' st k b m)) := by
  obtain ⟨r1, r2, b1, b2, b3, b4, b5, b6, b7, b8⟩ := h
  have xo : ∀ a j, ¬ a = 347 → xHand (nI (v + 4)) (nI d) r w b x.1 a j = x.1 a j := fun a j => xHand_o
  have mo : ∀ a j, ¬ (a = 0 ∧ 36 ≤ j ∧ j ≤ 41) → mHand (nI (v + 4)) (nI (4 * (v + 4) + d)) w' st k b m a j = m a j := fun a j => mHand_o
  have m40 : mHand (nI (v + 4)) (nI (4 * (v + 4) + d)) w' st k b m 0 40 = k := by rw [mHand, ab_up_nj (by decide), ab_up_eq]
  have n1 : k = nI 21 ∨ ∀ p M j, p < 12 → M ≤ 12 → m 2 p = nI M → j < M → ¬ m 1 (13 * (12 * p + j) + 1) = nI 22 := hk.elim (fun z => Or.inr z.2.1) (fun z => Or.inl z.1)
  have n2 : k = nI 21 ∨ ∀ p, p < 12 → ¬ m 5 p = -1 → ¬ m 4 (13 * p + 1) = nI 22 := hk.elim (fun z => Or.inr z.2.2) (fun z => Or.inl z.1)
  have RM1 : RM (xHand (nI (v + 4)) (nI d) r w b x.1, x.2) (mHand (nI (v + 4)) (nI (4 * (v + 4) + d)) w' st k b m) := ((r1.fk n1).xc (x' := (xHand (nI (v + 4)) (nI d) r w b x.1, x.2)) (fun _ _ _ _ => rfl) (fun p hp => xo (7 + 28 * p) 1 (by omega)) (fun p hp a j _ _ => xo a j (by omega)) (fun p hp => xo 3 p (by omega)) (xo 1 4 (by omega)) (xo 1 5 (by omega)) (xo 1 6 (by omega))).mc (fun i _ => by rw [mo 1 i (by omega), ab_up_ne (by decide)]) (fun i _ => by rw [mo 2 i (by omega), ab_up_ne (by decide)]) (fun i _ => by rw [mo 7 i (by omega), ab_up_ne (by decide)]) (fun j hj => by
    by_cases e : j = 40
    · subst e; rw [m40, ab_up_eq]
    · rw [mo 0 j (by omega), ab_up_nj e])
  have RH1 : RH (xHand (nI (v + 4)) (nI d) r w b x.1, x.2) (mHand (nI (v + 4)) (nI (4 * (v + 4) + d)) w' st k b m) := (r2.fk n2).fr (fun p hp j => ⟨xo (33 + 28 * p) j (by omega), xo (33 + 28 * p + 1) j (by omega)⟩) (fun i _ => by rw [mo 5 i (by omega), ab_up_ne (by decide)]) (fun i _ => by rw [mo 4 i (by omega), ab_up_ne (by decide)]) (by rw [m40, ab_up_eq]) (by rw [mo 0 34 (by omega), ab_up_nj (by decide)])
  have b6' : x.1 347 2 = m 0 35 ∧ x.1 347 4 = m 0 34 ∧ (m 0 35 = 1 → x.1 347 6 = m 0 37 ∧ m 0 38 = nI 4 * m 0 37 + x.1 347 7 ∧ x.1 347 9 = m 0 40 ∧ x.1 347 10 = m 0 41 ∧ x.1 347 5 = (if m 0 36 = 1 then 1 else 0) ∧ (¬ m 0 36 = 1 → x.1 347 8 = m 0 39) ∧ (m 0 40 = 21 → ∀ i, i < 8 → x.1 356 i = m 22 i)) := b6
  have A := ask_rel RM1 RH1 (by
    rw [m40]
    refine ⟨b1, b2, b3, b4, b5, ?_, b7, b8⟩
    show nI 1 = nI 1 ∧ x.1 347 4 = m 0 34 ∧ (nI 1 = 1 → nI (v + 4) = nI (v + 4) ∧ nI (4 * (v + 4) + d) = nI 4 * nI (v + 4) + nI d ∧ k = k ∧ b = b ∧ r = (if st = 1 then 1 else 0) ∧ (¬ st = 1 → w = w') ∧ (k = 21 → ∀ i, i < 8 → x.1 356 i = m 22 i))
    refine ⟨rfl, b6'.2.1, fun _ => ⟨rfl, (slot_m v hv d hd4).symm, rfl, rfl, hr, hw, fun z => ?_⟩⟩
    rcases hk with y | y
    · rw [y.1] at z; exact absurd z (by decide)
    · exact y.2) (by
    rw [m40]
    exact hk.elim (fun z => Or.inl z.1) (fun z => Or.inr z.1)) (by rw [mo 5 2 (by omega)]; exact h5) (by rw [mo 0 34 (by omega)]; exact htl) (by rw [mo 0 23 (by omega)]; exact hd)
  rw [m40] at A
  exact A
theorem blk_A : ∀ b, b < 4 → ¬ lg_cmp ((nI b).toInt64) 0 < 0 ∧ ¬ 0 ≤ lg_cmp ((nI b).toInt64) 4 := by decide +kernel
theorem blk_B : ∀ b, b < 4 → ((nI b).toInt64) * 8 = (nI (8 * b)).toInt64 := by decide +kernel
theorem blk_D : ∀ g, g < 16 → ∀ b, b < 4 → nI g * nI 4 + ((nI b).toInt64).toInt32 = nI (4 * g + b) := by decide +kernel
theorem has_of {x : xD} {g : Nat} (hg : g < 16) (h : ¬ x.1 349 g = 0) : ¬ FX4_has (nI g) x = 0 ∧ DX4_has (nI g) x := by
  have c0 : ¬ nI g < 0 := nI_pos (by omega)
  have c16 : ¬ nI 16 ≤ nI g := nI_ge hg (by decide)
  have hc : (nI g).toNatClampNeg = g := nI_clamp (by omega)
  rw [FX4_has, DX4_has, if_neg c0, if_neg c16, hc, if_neg h]
  exact ⟨nI10, fun z => absurd z c0, fun _ => ⟨fun z => absurd z c16, fun _ => ⟨c0, hg, trivial⟩⟩⟩
theorem block_of {x : xD} {g b S : Nat} (hg : g < 16) (hb : b < 4) (hS : S ≤ 32) (h349 : ¬ x.1 349 g = 0) (h350 : x.1 350 g = nI S) (hs : 8 * b < S) : FX4_blockOf (nI g) ((nI b).toInt64) x = x.1 351 (4 * g + b) ∧ DX4_blockOf (nI g) ((nI b).toInt64) x := by
  obtain ⟨h1, h2⟩ := has_of hg h349
  obtain ⟨a1, a2⟩ := blk_A b hb
  have hc : (nI g).toNatClampNeg = g := nI_clamp (by omega)
  have hci : (nI (4 * g + b)).toNatClampNeg = 4 * g + b := nI_clamp (by omega)
  have cl : lg_cmp ((nI (8 * b)).toInt64) ((nI S).toInt64) < 0 := fi_F.mpr (nI_ge (by omega) (by omega))
  rw [FX4_blockOf, DX4_blockOf, if_neg h1, if_neg a1, if_neg a2, hc, h350, blk_B b hb, if_pos cl, blk_D g hg b hb, hci]
  exact ⟨rfl, h2, fun z => absurd z h1, fun _ => ⟨fun z => absurd z a1, fun _ => ⟨fun z => absurd z a2, fun _ => ⟨nI_pos (by omega), hg, fun _ => ⟨nI_pos (by omega), by omega, trivial⟩, fun z => absurd cl z⟩⟩⟩⟩
def iOpT (m : mD) : Prop := ∀ v d g, v < 8 → d < 4 → g < 16 → m 14 (4 * (v + 4) + d) = nI g → m 16 g = 1 ∧ ∃ P S, P ≤ S ∧ S ≤ 32 ∧ m 15 (4 * (v + 4) + d) = nI P ∧ m 17 g = nI S
theorem at_open {x : xD} {m : mD} {v d g : Nat} (h : R3 x m) (ho : iOpe m) (hv : v < 8) (hd : d < 4) (hg : g < 16) (e14 : m 14 (4 * (v + 4) + d) = nI g) : DX7_slot (nI (v + 4)) (nI d) x ∧ DX7_fileAt (nI (v + 4)) (nI d) x ∧ DX7_placeAt (nI (v + 4)) (nI d) x ∧ FX7_fileAt (nI (v + 4)) (nI d) x = nI g ∧ FX7_slot (nI (v + 4)) (nI d) x = nI (4 * v + d) ∧ FX7_placeAt (nI (v + 4)) (nI d) x = m 15 (4 * (v + 4) + d) := by
  obtain ⟨a1, a2, a3, a4, a5⟩ := at_rel h ho hv hd
  rcases a5 with z | z
  · rw [e14] at z; exact absurd z.1 (nI_ne_m1 g (by omega))
  · exact ⟨a1, a2, a3, a4.trans e14, z.2⟩
theorem read_open {x : xD} {m : mD} {v d g : Nat} (h : R3 x m) (ho : iOpe m) (hT : iOpT m) (hz : iSiz m) (hn : no22 m) (hv : v < 8) (hd4 : d < 4) (hg : g < 16) (e14 : m 14 (4 * (v + 4) + d) = nI g) (h5 : m 5 2 = -1) (htl : ¬ m 0 34 = 0) (hd : m 0 23 = 0 ∨ m 0 23 = 1) : DX3_read (nI (v + 4)) (nI d) x ∧ Dreads (v + 4) (4 * (v + 4) + d) g m ∧ R3 (FX3_read (nI (v + 4)) (nI d) x) (Freads (v + 4) (4 * (v + 4) + d) g m) := by
  obtain ⟨a1, a2, a3, a4, a5, a6⟩ := at_open h ho hv hd4 hg e14
  obtain ⟨t1, P, S, hPS, hS, e15, e17⟩ := hT v d g hv hd4 hg e14
  obtain ⟨S', hS', e17', hB, -⟩ := hz g hg t1
  have eS : S' = S := (nI_eq (by omega) (by omega)).mp (e17'.symm.trans e17)
  subst eS
  obtain ⟨s1, s2⟩ := size_rel h hg t1
  have ng : ¬ nI g = -1 := nI_ne_m1 g (by omega)
  rw [e15] at a6
  rw [e17] at s1
  rw [FX3_read, DX3_read, Freads, Dreads, a4, a6, s1, e15, e17, if_neg ng]
  by_cases c : P = S'
  · subst c
    have cl : ¬ nI P < nI P := Int32.lt_irrefl
    obtain ⟨q1, q2, q3, -⟩ := tells_rel (f := 2) (u := v + 4) (v := -5) h (by decide) (by omega) (by omega) hd h5 htl
    rw [if_neg cl, if_neg ng, if_pos rfl]
    exact ⟨⟨a2, a3, fun z => absurd z ng, fun _ => ⟨s2, fun z => absurd z cl, fun _ => ⟨fun z => absurd z ng, fun _ => ⟨q1, trivial⟩⟩⟩⟩, ⟨by omega, hg, fun _ => ⟨q2, trivial⟩, fun z => absurd rfl z⟩, q3⟩
  · have cl : nI P < nI S' := nI_lt (by omega) (by omega)
    have ce : ¬ nI P = nI S' := fun z => c ((nI_eq (by omega) (by omega)).mp z)
    have dv : nI P / nI 8 = nI (P / 8) := pk_div (by omega) (by decide) (by decide)
    have ei : nI (4 * g) + nI (P / 8) = nI (4 * g + P / 8) := nI_add _ _
    have hci : (nI (4 * g + P / 8)).toNatClampNeg = 4 * g + P / 8 := nI_clamp (by omega)
    obtain ⟨u1, u2⟩ := (rTab_of h).2.1 g hg t1
    have n18 := hB (P / 8) (by omega) (by omega)
    have B := block_of (x := FX3_takeInHand (nI (v + 4)) (nI d) (nI 1) (nI 0) x) (g := g) (b := P / 8) (S := S') hg (by omega) hS (by
      show ¬ x.1 349 g = 0
      rw [(rTab_of h).1 g hg, t1]; decide) (by
      show x.1 350 g = nI S'
      rw [u1, e17]) (by omega)
    have B1 : FX4_blockOf (nI g) ((nI (P / 8)).toInt64) (FX3_takeInHand (nI (v + 4)) (nI d) (nI 1) (nI 0) x) = m 18 (4 * g + P / 8) := B.1.trans (u2 (P / 8) (by omega) n18)
    have A := hand_ask (v := v) (d := d) (r := nI 1) (w := nI 0) (w' := m 0 39) (st := nI 1) (k := nI 20) (b := m 18 (4 * g + P / 8)) h hv hd4 (by decide) (fun z => absurd rfl z) (Or.inl ⟨rfl, hn⟩) h5 htl hd
    have eM : mHand (nI (v + 4)) (nI (4 * (v + 4) + d)) (m 0 39) (nI 1) (nI 20) (m 18 (4 * g + P / 8)) m = ab_up (ab_up (ab_up (ab_up (ab_up m 0 37 (nI (v + 4))) 0 38 (nI (4 * (v + 4) + d))) 0 36 (nI 1)) 0 40 (nI 20)) 0 41 (m 18 (4 * g + P / 8)) := by
      have e : ab_up (ab_up (ab_up m 0 37 (nI (v + 4))) 0 38 (nI (4 * (v + 4) + d))) 0 39 (m 0 39) = ab_up (ab_up m 0 37 (nI (v + 4))) 0 38 (nI (4 * (v + 4) + d)) := ab_up_self (by rw [ab_up_nj (by decide), ab_up_nj (by decide)])
      rw [mHand, e]
    rw [eM] at A
    have e18 : ab_up (ab_up (ab_up (ab_up m 0 37 (nI (v + 4))) 0 38 (nI (4 * (v + 4) + d))) 0 36 (nI 1)) 0 40 (nI 20) 18 (4 * g + P / 8) = m 18 (4 * g + P / 8) := by rw [ab_up_ne (by decide), ab_up_ne (by decide), ab_up_ne (by decide), ab_up_ne (by decide)]
    have hth : DX3_takeInHand (nI (v + 4)) (nI d) (nI 1) (nI 0) x := ⟨Or.inr rfl, trivial⟩
    have xe : (ab_up (FX3_takeInHand (nI (v + 4)) (nI d) (nI 1) (nI 0) x).1 347 10 (m 18 (4 * g + P / 8)), (FX3_takeInHand (nI (v + 4)) (nI d) (nI 1) (nI 0) x).2) = (xHand (nI (v + 4)) (nI d) (nI 1) (nI 0) (m 18 (4 * g + P / 8)) x.1, x.2) := rfl
    rw [if_pos cl, if_neg ce, dv]
    dsimp only
    rw [B1, ei, hci, e18, xe]
    exact ⟨⟨a2, a3, fun z => absurd z ng, fun _ => ⟨s2, fun _ => ⟨hth, B.2, A.1, trivial⟩, fun z => absurd cl z⟩⟩, ⟨by omega, hg, fun z => absurd z ce, fun _ => ⟨nI_pos (by omega), by omega, A.2.1, trivial⟩⟩, A.2.2⟩
