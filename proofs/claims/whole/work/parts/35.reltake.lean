/-! TAKING a message out of an inbox, here and there -/
def shf (r : Nat → Nat → Nat) (q k j : Nat) : Nat → Nat → Nat := fun a b => if a = q ∧ k ≤ b ∧ b < j then r q (b + 1) else r a b
def rot (r : Nat → Nat → Nat) (q k M : Nat) : Nat → Nat → Nat := ab_up (shf r q k (M - 1)) q (M - 1) (r q k)
theorem shf_0 {r : Nat → Nat → Nat} {q k : Nat} : shf r q k k = r := by
  funext a b
  exact if_neg (fun h => by omega)
theorem shf_s {r : Nat → Nat → Nat} {q k j : Nat} (h : k ≤ j) : ab_up (shf r q k j) q j (r q (j + 1)) = shf r q k (j + 1) := by
  funext a b
  by_cases ha : a = q
  · subst ha
    by_cases hb : b = j
    · subst hb
      rw [ab_up_eq, shf, if_pos ⟨rfl, h, by omega⟩]
    · rw [ab_up_nj hb]
      by_cases hc : k ≤ b ∧ b < j
      · rw [shf, if_pos ⟨rfl, hc.1, hc.2⟩, shf, if_pos ⟨rfl, hc.1, by omega⟩]
      · rw [shf, if_neg (fun z => hc z.2), shf, if_neg (fun z => hc ⟨z.2.1, by omega⟩)]
  · rw [ab_up_ne ha, shf, if_neg (fun z => ha z.1), shf, if_neg (fun z => ha z.1)]
theorem rot_at {r : Nat → Nat → Nat} {q k M j : Nat} : rot r q k M q j = if j = M - 1 then r q k else if k ≤ j ∧ j < M - 1 then r q (j + 1) else r q j := by
  rw [rot]
  by_cases h : j = M - 1
  · subst h; rw [ab_up_eq, if_pos rfl]
  · rw [ab_up_nj h, if_neg h]
    by_cases hc : k ≤ j ∧ j < M - 1
    · rw [shf, if_pos ⟨rfl, hc⟩, if_pos hc]
    · rw [shf, if_neg (fun z => hc z.2), if_neg hc]
theorem rot_o {r : Nat → Nat → Nat} {q k M a j : Nat} (h : a ≠ q) : rot r q k M a j = r a j := by
  rw [rot, ab_up_ne h, shf, if_neg (fun z => h z.1)]
theorem rot_ok {r : Nat → Nat → Nat} {p k M : Nat} (hr : rowsOK r) (hk : k < M) (hM : M ≤ 12) : rowsOK (rot r (8 + 28 * p) k M) := by
  intro p2 hp2
  by_cases h : p2 = p
  · subst h
    refine ⟨fun j hj => ?_, fun j l hj hl => ?_⟩
    · rw [rot_at]
      split
      · exact (hr p2 hp2).1 k (by omega)
      · split
        · exact (hr p2 hp2).1 (j + 1) (by omega)
        · exact (hr p2 hp2).1 j hj
    · rw [rot_at, rot_at]
      intro e
      have inj := (hr p2 hp2).2
      by_cases a1 : j = M - 1
      · by_cases b1 : l = M - 1
        · omega
        · rw [if_pos a1, if_neg b1] at e
          by_cases b2 : k ≤ l ∧ l < M - 1
          · rw [if_pos b2] at e
            have := inj k (l + 1) (by omega) (by omega) e
            omega
          · rw [if_neg b2] at e
            have := inj k l (by omega) (by omega) e
            omega
      · rw [if_neg a1] at e
        by_cases b1 : l = M - 1
        · rw [if_pos b1] at e
          by_cases a2 : k ≤ j ∧ j < M - 1
          · rw [if_pos a2] at e
            have := inj (j + 1) k (by omega) (by omega) e
            omega
          · rw [if_neg a2] at e
            have := inj j k (by omega) (by omega) e
            omega
        · rw [if_neg b1] at e
          by_cases a2 : k ≤ j ∧ j < M - 1
          · rw [if_pos a2] at e
            by_cases b2 : k ≤ l ∧ l < M - 1
            · rw [if_pos b2] at e
              have := inj (j + 1) (l + 1) (by omega) (by omega) e
              omega
            · rw [if_neg b2] at e
              have := inj (j + 1) l (by omega) (by omega) e
              omega
          · rw [if_neg a2] at e
            by_cases b2 : k ≤ l ∧ l < M - 1
            · rw [if_pos b2] at e
              have := inj j (l + 1) (by omega) (by omega) e
              omega
            · rw [if_neg b2] at e
              exact inj j l hj hl e
  · refine ⟨fun j hj => ?_, fun j l hj hl => ?_⟩
    · rw [rot_o (by omega)]; exact (hr p2 hp2).1 j hj
    · rw [rot_o (by omega), rot_o (by omega)]; exact (hr p2 hp2).2 j l hj hl
theorem FX0_take_33_l {p k M : Nat} {i : Int32} {c : mD} {r : Nat → Nat → Nat} {w : Nat} (hp : p < 12) (hr : rowsOK r) (hk : k < M) (hM : M ≤ 12) (hs : c (7 + 28 * p) 1 = nI (M - 1)) (hw : isX w 6) : ∀ (n j : Nat), k ≤ j → j ≤ M - 1 → M - 1 - j < n →
    FX0_take_33 n (7 + 28 * p) i w (nI j) (c, shf r (8 + 28 * p) k j) = (some w, (c, ab_up (shf r (8 + 28 * p) k (M - 1)) (8 + 28 * p) (M - 1) w)) ∧ DX0_take_33 n (7 + 28 * p) i w (nI j) (c, shf r (8 + 28 * p) k j) := by
  have e8 : 7 + 28 * p + 1 = 8 + 28 * p := by omega
  intro n
  induction n with
  | zero => intro j _ _ h; omega
  | succ n ih =>
    intro j hj1 hj2 hn
    have hcj : (nI j).toNatClampNeg = j := nI_clamp (by omega)
    have hcM : (nI (M - 1)).toNatClampNeg = M - 1 := nI_clamp (by omega)
    have ej : nI j + nI 1 = nI (j + 1) := nI_add j 1
    have ej2 : nI j + 1 = nI (j + 1) := nI_1 j
    have hcj1 : (nI (j + 1)).toNatClampNeg = j + 1 := nI_clamp (by omega)
    have hs2 : ((c, shf r (8 + 28 * p) k j) : xD).1 (7 + 28 * p) 1 = nI (M - 1) := hs
    rw [FX0_take_33, DX0_take_33, hs2, e8]
    by_cases h : nI (M - 1) ≤ nI j
    · have e : j = M - 1 := by have := (nI_leI (by omega) (by omega)).mp h; omega
      subst e
      rw [if_pos h, hcM]
      exact ⟨rfl, isX_box hp, fun _ => ⟨nI_pos (by omega), by omega, hw, trivial⟩, fun z => absurd h z⟩
    · have hlt : j < M - 1 := by
        rcases Nat.lt_or_ge j (M - 1) with z | z
        · exact z
        · exact absurd ((nI_leI (by omega) (by omega)).mpr z) h
      obtain ⟨h1, h2⟩ := ih (j + 1) (by omega) (by omega) (by omega)
      have es : shf r (8 + 28 * p) k j (8 + 28 * p) (j + 1) = r (8 + 28 * p) (j + 1) := if_neg (fun z => by omega)
      have e := shf_s (r := r) (q := 8 + 28 * p) hj1
      rw [if_neg h, ej, ej2, hcj, hcj1]
      dsimp only
      rw [es, e]
      refine ⟨h1, isX_box hp, fun z => absurd z h, fun _ => ⟨nI_pos (by omega), by omega, ?_, nI_pos (by omega), by omega, h2⟩⟩
      obtain ⟨i2, hi2, ee⟩ := (hr p hp).1 (j + 1) (by omega)
      rw [ee]
      exact isX_msg p hp i2 hi2
def xTake (p k M : Nat) (x : xD) : xD := (ab_up x.1 (7 + 28 * p) 1 (nI (M - 1)), rot x.2 (8 + 28 * p) k M)
theorem FX0_take_eq {p k M : Nat} {x : xD} (hp : p < 12) (hr : rowsOK x.2) (hk : k < M) (hM : M ≤ 12) (hs : x.1 (7 + 28 * p) 1 = nI M) : FX0_take (7 + 28 * p) (nI k) x = (some (xm x p k), xTake p k M x) ∧ DX0_take (7 + 28 * p) (nI k) x := by
  have e8 : 7 + 28 * p + 1 = 8 + 28 * p := by omega
  have h0 : ¬ nI k < 0 := nI_pos (by omega)
  have hlt : nI k < nI M := (nI_ltI (by omega) (by omega)).mpr hk
  have hck : (nI k).toNatClampNeg = k := nI_clamp (by omega)
  have e1 : nI M - nI 1 = nI (M - 1) := pk_sub (by omega)
  have hl := FX0_take_33_l (i := nI k) (c := ab_up x.1 (7 + 28 * p) 1 (nI (M - 1))) (w := xm x p k) hp hr hk hM ab_up_eq (isX_xm hr hp (by omega)) 13 k (Nat.le_refl _) (by omega) (by omega)
  rw [shf_0] at hl
  rw [FX0_take, DX0_take, hs]
  dsimp only
  rw [if_neg h0, if_pos hlt, hck, e1, e8]
  exact ⟨hl.1, fun z => absurd z h0, fun _ => ⟨isX_box hp, fun _ => ⟨h0, by omega, isX_xm hr hp (by omega), hl.2⟩, fun z => absurd hlt z⟩⟩
theorem FX0_take_no {p : Nat} {i : Int32} {x : xD} (hp : p < 12) (h : i < 0 ∨ ¬ i < x.1 (7 + 28 * p) 1) : FX0_take (7 + 28 * p) i x = (none, x) ∧ DX0_take (7 + 28 * p) i x := by
  rw [FX0_take, DX0_take]
  by_cases h0 : i < 0
  · rw [if_pos h0]
    exact ⟨rfl, fun _ => trivial, fun z => absurd h0 z⟩
  · have h1 : ¬ i < x.1 (7 + 28 * p) 1 := h.resolve_left h0
    rw [if_neg h0, if_neg h1]
    exact ⟨rfl, fun z => absurd z h0, fun _ => ⟨isX_box hp, fun z => absurd z h1, fun _ => trivial⟩⟩
/-- the inboxes behind it, without the copy of what was taken -/
theorem RM.drop {x : xD} {m : mD} {p k M : Nat} (h : RM x m) (hp : p < 12) (hk : k < M) (hM : M ≤ 12) (hm : m 2 p = nI M) : RM (xTake p k M x) (mDrop p k m) := by
  obtain ⟨hr, hb, hl, h4, h5, h6⟩ := h
  have hc : (nI M).toNatClampNeg = M := nI_clamp (by omega)
  have xo : ∀ a j, a ≠ 7 + 28 * p → (xTake p k M x).1 a j = x.1 a j := fun a j ha => ab_up_ne ha
  have mo : ∀ a j, a ≠ 1 → ¬ (a = 2 ∧ j = p) → mDrop p k m a j = m a j := by
    intro a j a1 a2
    rw [mDrop]
    by_cases e : a = 2
    · subst e; rw [ab_up_nj (fun z => a2 ⟨rfl, z⟩), fil_q a1]
    · rw [ab_up_ne e, fil_q a1]
  have m1 : ∀ j, mDrop p k m 1 j = fil m 1 (13 * (12 * p + k)) (13 * (M - 1 - k)) (fun i => m 1 (13 * (12 * p + k) + i + 13)) 1 j := by
    intro j
    rw [mDrop, ab_up_ne (by decide), hm, hc]
  refine ⟨rot_ok hr hk hM, fun p2 hp2 => ?_, fun p2 hp2 => ?_, ?_, ?_, ?_⟩
  · by_cases hpp : p2 = p
    · subst hpp
      obtain ⟨M0, hM0, e1, e2, e3⟩ := hb p2 hp2
      have eM : M0 = M := (nI_eq (by omega) (by omega)).mp (e1.symm.trans hm)
      subst eM
      refine ⟨M0 - 1, by omega, ?_, ab_up_eq, fun j hj => ?_⟩
      · rw [mDrop, ab_up_eq, hm, hc]
      · rw [mo 0 40 (by decide) (by omega)]
        have ex : xm (xTake p2 k M0 x) p2 j = if k ≤ j then xm x p2 (j + 1) else xm x p2 j := by
          show rot x.2 (8 + 28 * p2) k M0 (8 + 28 * p2) j = _
          rw [rot_at, if_neg (by omega)]
          by_cases hkj : k ≤ j
          · rw [if_pos ⟨hkj, hj⟩, if_pos hkj]; rfl
          · rw [if_neg (fun z => hkj z.1), if_neg hkj]; rfl
        rw [ex]
        by_cases hkj : k ≤ j
        · rw [if_pos hkj]
          obtain ⟨i2, hi2, ee⟩ := (hr p2 hp2).1 (j + 1) (by omega)
          have ew : xm x p2 (j + 1) = 9 + 28 * p2 + 2 * i2 := ee
          refine (e3 (j + 1) (by omega)).congr (fun a _ _ => xo _ _ (by omega)) (fun a _ => xo _ _ (by omega)) (fun i hi => ?_)
          rw [m1, fil_in (by omega) (by omega)]
          exact congrArg (m 1) (by omega)
        · rw [if_neg hkj]
          obtain ⟨i2, hi2, ee⟩ := (hr p2 hp2).1 j (by omega)
          have ew : xm x p2 j = 9 + 28 * p2 + 2 * i2 := ee
          refine (e3 j (by omega)).congr (fun a _ _ => xo _ _ (by omega)) (fun a _ => xo _ _ (by omega)) (fun i hi => ?_)
          rw [m1]
          exact fil_out (by omega)
    · refine (hb p2 hp2).congr hp2 hr (fun j hj => rot_o (by omega)) (xo _ _ (by omega)) (mo 2 p2 (by decide) (by omega)) (mo 0 40 (by decide) (by omega)) (fun a j h1 h2 => xo _ _ (by omega)) (fun i h1 h2 => ?_)
      rw [m1]
      exact fil_out (by omega)
  · rw [xo _ _ (by omega), Flives_congr (mo _ _ (by decide) (by omega)) (mo _ _ (by decide) (by omega))]
    exact hl p2 hp2
  · rw [xo _ _ (by omega), mo _ _ (by decide) (by omega)]; exact h4
  · rw [xo _ _ (by omega), mo _ _ (by decide) (by omega)]; exact h5
  · rw [xo _ _ (by omega), mo _ _ (by decide) (by omega)]; exact h6
/-- and with it: what was taken is the same -/
theorem RM.take {x : xD} {m : mD} {p k M : Nat} (h : RM x m) (hp : p < 12) (hk : k < M) (hM : M ≤ 12) (hm : m 2 p = nI M) : RM (xTake p k M x) (mTake p k m) ∧ eqM (m 0 40) (xTake p k M x).1 (xm x p k) (mTake p k m 6) := by
  have h1 : RM x (fil m 6 0 13 (fun i => m 1 (13 * (12 * p + k) + i))) := h.mc (fun i _ => fil_q (by decide)) (fun i _ => fil_q (by decide)) (fun i _ => fil_q (by decide)) (fun i _ => fil_q (by decide))
  refine ⟨h1.drop hp hk hM (by rw [fil_q (by decide)]; exact hm), ?_⟩
  obtain ⟨hr, hb, -⟩ := h
  obtain ⟨M0, hM0, e1, e2, e3⟩ := hb p hp
  have eM : M0 = M := (nI_eq (by omega) (by omega)).mp (e1.symm.trans hm)
  subst eM
  obtain ⟨i2, hi2, ee⟩ := (hr p hp).1 k (by omega)
  have ew : xm x p k = 9 + 28 * p + 2 * i2 := ee
  refine (e3 k hk).congr (fun a _ _ => ab_up_ne (by omega)) (fun a _ => ab_up_ne (by omega)) (fun i hi => ?_)
  rw [mTake, mDrop, ab_up_ne (by decide), fil_q (by decide), fil_in (Nat.zero_le _) (by omega), Nat.sub_zero]
