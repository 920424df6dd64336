/-! THE REST OF THE RELATION: what is no message. It looks at the class's places 0 and 343 on, and at the reference's 7 on and its fields but forbidden, through -/
def nx (c : mD) : mD := fun a j => if a = 0 ∨ 343 ≤ a then c a j else 0
def nm (m : mD) : mD := fun a j => if 7 ≤ a ∨ (a = 0 ∧ j ≠ 6 ∧ j ≠ 7) then m a j else 0
def cnt (p : Nat → Bool) : Nat → Nat
  | 0 => 0
  | n + 1 => cnt p n + (if p n then 1 else 0)
def rHou (c m : mD) : Prop := c 0 6 = m 0 47 ∧ c 0 7 = m 0 48 ∧ c 0 8 = m 0 30
def rKee (c m : mD) : Prop := c 343 0 = m 0 31 ∧ c 343 1 = m 0 32 ∧ (m 0 23 = 1 → c 343 2 = m 0 33)
def rDri (c m : mD) : Prop := c 344 2 = m 0 24 ∧ c 344 3 = m 0 26 ∧ c 344 4 = (if m 0 27 = 0 then -1 else m 0 27) ∧ (¬ m 0 27 = 0 → c 344 5 = m 0 28) ∧ (m 0 27 = 21 → ∀ i, i < 8 → c 346 i = m 21 i) ∧ ∀ i, i < 192 → c 345 i = m 20 i
def rTab (c m : mD) : Prop := (∀ i, i < 16 → c 349 i = m 16 i) ∧ (∀ i, i < 16 → m 16 i = 1 → c 350 i = m 17 i ∧ ∀ b, b < 4 → ¬ m 18 (4 * i + b) < 0 → c 351 (4 * i + b) = m 18 (4 * i + b)) ∧ (∀ i, i < 24 → c 352 i = m 19 i) ∧ c 348 4 = nI (cnt (fun i => decide (m 16 i = 1)) 16) ∧ c 348 5 = nI (cnt (fun i => decide (m 19 i = 0)) 24)
def rOpe (c m : mD) : Prop := ∀ u d, u < 8 → d < 4 → c 354 (4 * u + d) = m 14 (4 * (u + 4) + d) ∧ (¬ m 14 (4 * (u + 4) + d) < 0 → c 355 (4 * u + d) = m 15 (4 * (u + 4) + d))
def rFil (c m : mD) : Prop := c 347 2 = m 0 35 ∧ c 347 4 = m 0 34 ∧ (m 0 35 = 1 → c 347 6 = m 0 37 ∧ m 0 38 = nI 4 * m 0 37 + c 347 7 ∧ c 347 9 = m 0 40 ∧ c 347 10 = m 0 41 ∧ c 347 5 = (if m 0 36 = 1 then 1 else 0) ∧ (¬ m 0 36 = 1 → c 347 8 = m 0 39) ∧ (m 0 40 = 21 → ∀ i, i < 8 → c 356 i = m 22 i))
def rPro (c m : mD) : Prop := (∀ u, u < 12 → 4 ≤ u → c 358 u = m 11 u ∧ c 359 u = m 12 u ∧ c 360 u = (if m 7 u = 2 then 1 else 0) ∧ c 361 u = m 13 u) ∧ c 357 4 = m 0 43 ∧ (m 0 43 = 1 → c 357 5 = (if m 0 44 = 8 then 1 else 0) ∧ c 357 6 = m 0 46 ∧ c 357 7 = (if m 0 44 = 9 then -1 else m 0 45))
def rUse (c m : mD) : Prop := ∀ u, u < 12 → 4 ≤ u → c 363 u = m 8 u ∧ c 364 u = m 9 u ∧ c 365 u = m 10 u
def rr (c m : mD) : Prop := rHou c m ∧ rKee c m ∧ rDri c m ∧ rTab c m ∧ rOpe c m ∧ rFil c m ∧ rPro c m ∧ rUse c m
def RR (c m : mD) : Prop := rr (nx c) (nm m)
theorem nx_eq {c c' : mD} (h : ∀ a j, a = 0 ∨ 343 ≤ a → c' a j = c a j) : nx c' = nx c := by
  funext a j
  by_cases e : a = 0 ∨ 343 ≤ a
  · rw [nx, nx, if_pos e, if_pos e, h a j e]
  · rw [nx, nx, if_neg e, if_neg e]
theorem nm_eq {m m' : mD} (h : ∀ a j, (7 ≤ a ∨ (a = 0 ∧ j ≠ 6 ∧ j ≠ 7)) → m' a j = m a j) : nm m' = nm m := by
  funext a j
  by_cases e : 7 ≤ a ∨ (a = 0 ∧ j ≠ 6 ∧ j ≠ 7)
  · rw [nm, nm, if_pos e, if_pos e, h a j e]
  · rw [nm, nm, if_neg e, if_neg e]
theorem RR.fr {c c' m m' : mD} (h : RR c m) (h1 : ∀ a j, a = 0 ∨ 343 ≤ a → c' a j = c a j) (h2 : ∀ a j, (7 ≤ a ∨ (a = 0 ∧ j ≠ 6 ∧ j ≠ 7)) → m' a j = m a j) : RR c' m' := by
  rw [RR, nx_eq h1, nm_eq h2]
  exact h
theorem RR.send {x y : xD} {m n : mD} (h : RR x.1 m) (h1 : FrX x y) (h2 : FrM m n) : RR y.1 n := h.fr (fun a j ha => h1 a j (by omega)) (fun a j ha => h2 a j (by omega))
theorem RH.fr {x x' : xD} {m m' : mD} (h : RH x m) (h1 : ∀ p, p < 12 → ∀ j, x'.1 (33 + 28 * p) j = x.1 (33 + 28 * p) j ∧ x'.1 (33 + 28 * p + 1) j = x.1 (33 + 28 * p + 1) j) (h2 : ∀ p, p < 12 → m' 5 p = m 5 p) (h4 : ∀ i, i < 156 → m' 4 i = m 4 i) (h40 : m' 0 40 = m 0 40) (h34 : m' 0 34 = m 0 34) : RH x' m' := fun p hp => (h p hp).congr (fun j => (h1 p hp j).1) (fun j => (h1 p hp j).2) (h2 p hp) (fun i hi => h4 _ (by omega)) h40 h34
theorem mTake_o {p k : Nat} {m : mD} {a j : Nat} (h1 : a ≠ 1) (h2 : ¬ (a = 2 ∧ j = p)) (h6 : a ≠ 6) : mTake p k m a j = m a j := by
  rw [mTake, mDrop]
  by_cases e : a = 2
  · subst e; rw [ab_up_nj (fun z => h2 ⟨rfl, z⟩), fil_q h1, fil_q h6]
  · rw [ab_up_ne e, fil_q h1, fil_q h6]
theorem xTake_o {p k M : Nat} {x : xD} {a j : Nat} (h : a ≠ 7 + 28 * p) : (xTake p k M x).1 a j = x.1 a j := ab_up_ne h
/-- a message taken: all relations -/
theorem take_rel {x : xD} {m : mD} {p k M : Nat} (h : RM x m) (hH : RH x m) (hR : RR x.1 m) (hp : p < 12) (hk : k < M) (hM : M ≤ 12) (hm : m 2 p = nI M) : RM (xTake p k M x) (mTake p k m) ∧ RH (xTake p k M x) (mTake p k m) ∧ RR (xTake p k M x).1 (mTake p k m) ∧ eqM (m 0 40) (xTake p k M x).1 (xm x p k) (mTake p k m 6) := by
  obtain ⟨a1, a2⟩ := h.take hp hk hM hm
  exact ⟨a1, hH.fr (fun p2 hp2 j => ⟨xTake_o (by omega), xTake_o (by omega)⟩) (fun p2 _ => mTake_o (by decide) (by omega) (by decide)) (fun i _ => mTake_o (by decide) (by omega) (by decide)) (mTake_o (by decide) (by omega) (by decide)) (mTake_o (by decide) (by omega) (by decide)), hR.fr (fun a j ha => xTake_o (by omega)) (fun a j ha => mTake_o (by omega) (by omega) (by omega)), a2⟩
theorem isUserX_z : ∀ p, p < 12 → (FX10_isUser (nI p) = 0 ↔ p < 4) := by decide +kernel
/-- a user's turn -/
theorem user_turn {x : xD} {m : mD} {u : Nat} (h : RM x m) (hH : RH x m) (hR : RR x.1 m) (hu : u < 12) (hu4 : 4 ≤ u) : DX9_takeTurn (nI u) x ∧ DofUser u m ∧ RM (FX9_takeTurn (nI u) x) (FofUser u m) ∧ RH (FX9_takeTurn (nI u) x) (FofUser u m) ∧ RR (FX9_takeTurn (nI u) x).1 (FofUser u m) := by
  have hcu : (nI u).toNatClampNeg = u := nI_clamp (by omega)
  have hiu : ¬ FX10_isUser (nI u) = 0 := fun z => by have := (isUserX_z u hu).mp z; omega
  obtain ⟨M, hM, e1, e2, e3⟩ := h.2.1 u hu
  have hcM : (nI M).toNatClampNeg = M := nI_clamp (by omega)
  by_cases h0 : M = 0
  · subst h0
    obtain ⟨t1, t2⟩ := FX0_take_no (x := x) (p := u) (i := nI 0) hu (Or.inr (by rw [e2]; decide))
    have ex : FX9_takeTurn (nI u) x = x := by
      rw [FX9_takeTurn, if_neg hiu, hcu, t1]
      rfl
    have em : FofUser u m = m := by
      rw [FofUser, e1, hcM, if_pos rfl]
    rw [ex, em]
    refine ⟨⟨fun z => absurd z hiu, fun _ => ⟨nI_pos (by omega), by rw [hcu]; exact hu, by rw [hcu]; exact t2, fun _ => trivial, ?_⟩⟩, ⟨hu, by rw [e1]; decide, by rw [e1, hcM]; decide, fun _ => trivial, fun z => absurd (by rw [e1, hcM]) z⟩, h, hH, hR⟩
    intro w hw
    rw [hcu, t1] at hw
    cases hw
  · obtain ⟨t1, t2⟩ := FX0_take_eq (k := 0) hu h.1 (by omega) hM e2
    obtain ⟨o1, o2⟩ := FtakeOut_eq (k := 0) hu e1 (by omega) hM
    obtain ⟨r1, r2, r3, r4⟩ := take_rel (k := 0) h hH hR hu (by omega) hM e1
    obtain ⟨q1, q2, q3, -⟩ := r4
    have hw : isX (xm x u 0) 6 := isX_xm h.1 hu (by decide)
    have dm : (m 2 u).toNatClampNeg = M := by rw [e1, hcM]
    have D1 : DX9_takeTurn (nI u) x := by
      refine ⟨fun z => absurd z hiu, fun _ => ⟨nI_pos (by omega), by rw [hcu]; exact hu, by rw [hcu]; exact t2, fun _ => trivial, ?_⟩⟩
      intro w hw0
      rw [hcu, t1] at hw0
      cases hw0
      have hp := nI_pos (n := u) (by omega)
      exact ⟨hw, fun _ => ⟨hp, by rw [hcu]; exact hu, hp, by rw [hcu]; exact hu, hp, by rw [hcu]; exact hu, hp, by rw [hcu]; exact hu, trivial⟩, fun _ => trivial⟩
    have D2 : DofUser u m := ⟨hu, by rw [e1]; exact nI_pos (by omega), by rw [dm]; omega, fun z => absurd (dm.symm.trans z) h0, fun _ => ⟨o2, fun _ => ⟨hu, hu, hu, hu, trivial⟩, fun _ => trivial⟩⟩
    refine ⟨D1, D2, ?_⟩
    have ex : FX9_takeTurn (nI u) x = (if (xTake u 0 M x).1 (xm x u 0) 2 = nI 50 then (ab_up (ab_up (ab_up (xTake u 0 M x).1 364 u ((xTake u 0 M x).1 (xm x u 0) 3)) 365 u ((xTake u 0 M x).1 365 u + 1)) 363 u (nI 0), (xTake u 0 M x).2) else xTake u 0 M x) := by
      rw [FX9_takeTurn, if_neg hiu, hcu, t1]
      dsimp only
      rw [ab_o_s rfl]
      rfl
    have em : FofUser u m = (if mTake u 0 m 6 1 = nI 50 then ab_up (ab_up (ab_up (mTake u 0 m) 8 u (nI 0)) 9 u (mTake u 0 m 6 2)) 10 u (mTake u 0 m 10 u + 1) else mTake u 0 m) := by
      rw [FofUser, dm, if_neg h0, o1]
      rfl
    rw [ex, em, q2]
    by_cases hk : mTake u 0 m 6 1 = nI 50
    · rw [if_pos hk, if_pos hk, q3]
      refine ⟨?_, ?_, ?_⟩
      · have g1 : RM (ab_up (ab_up (ab_up (xTake u 0 M x).1 364 u (mTake u 0 m 6 2)) 365 u ((xTake u 0 M x).1 365 u + 1)) 363 u (nI 0), (xTake u 0 M x).2) (mTake u 0 m) := r1.xc (fun _ _ _ _ => rfl) (fun p hp => by show ab_up _ _ _ _ _ _ = _; rw [ab_up_ne (by omega), ab_up_ne (by omega), ab_up_ne (by omega)]) (fun p hp a j _ _ => by show ab_up _ _ _ _ _ _ = _; rw [ab_up_ne (by omega), ab_up_ne (by omega), ab_up_ne (by omega)]) (fun p hp => rfl) rfl rfl rfl
        exact g1.mc (fun _ _ => rfl) (fun _ _ => rfl) (fun _ _ => rfl) (fun _ _ => rfl)
      · refine r2.fr (fun p hp j => ⟨?_, ?_⟩) (fun _ _ => rfl) (fun _ _ => rfl) rfl rfl
        · show ab_up _ _ _ _ _ _ = _; rw [ab_up_ne (by omega), ab_up_ne (by omega), ab_up_ne (by omega)]
        · show ab_up _ _ _ _ _ _ = _; rw [ab_up_ne (by omega), ab_up_ne (by omega), ab_up_ne (by omega)]
      · obtain ⟨b1, b2, b3, b4, b5, b6, b7, b8⟩ := r3
        refine ⟨b1, b2, b3, b4, b5, b6, b7, fun v hv hv4 => ?_⟩
        have c8 := b8 v hv hv4
        have c8 : (xTake u 0 M x).1 363 v = mTake u 0 m 8 v ∧ (xTake u 0 M x).1 364 v = mTake u 0 m 9 v ∧ (xTake u 0 M x).1 365 v = mTake u 0 m 10 v := c8
        show ab_up (xTake u 0 M x).1 363 u (nI 0) 363 v = ab_up (mTake u 0 m) 8 u (nI 0) 8 v ∧ ab_up (xTake u 0 M x).1 364 u (mTake u 0 m 6 2) 364 v = ab_up (mTake u 0 m) 9 u (mTake u 0 m 6 2) 9 v ∧ ab_up (xTake u 0 M x).1 365 u ((xTake u 0 M x).1 365 u + 1) 365 v = ab_up (mTake u 0 m) 10 u (mTake u 0 m 10 u + 1) 10 v
        by_cases hvu : v = u
        · subst hvu
          rw [ab_up_eq, ab_up_eq, ab_up_eq, ab_up_eq, ab_up_eq, ab_up_eq, c8.2.2]
          exact ⟨rfl, rfl, rfl⟩
        · rw [ab_up_nj hvu, ab_up_nj hvu, ab_up_nj hvu, ab_up_nj hvu, ab_up_nj hvu, ab_up_nj hvu]
          exact c8
    · rw [if_neg hk, if_neg hk]
      exact ⟨r1, r2, r3⟩
