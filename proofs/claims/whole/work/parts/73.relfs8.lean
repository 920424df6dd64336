/-! FILES, VIII: the driver has done it (22) -/
theorem fmP8 : ∀ P, P < 33 → FXJ9_floorMod_7cf53 (nI P) (nI 8) = nI (P % 8) := by decide +kernel
theorem unwait_rel {x : xD} {m : mD} (h : R3 x m) : R3 (ab_up x.1 347 2 (nI 0), x.2) (ab_up m 0 35 (nI 0)) := by
  obtain ⟨r1, r2, b1, b2, b3, b4, b5, b6, b7, b8⟩ := h
  obtain ⟨c1, c2⟩ := RMH.rest (x' := (ab_up x.1 347 2 (nI 0), x.2)) (m' := ab_up m 0 35 (nI 0)) r1 r2 rfl (fun q j _ hq => ab_up_ne (by omega)) (fun q j hq => ab_up_ne (by omega)) (fun j hj => ab_up_nj (by omega))
  have b6' : x.1 347 2 = m 0 35 ∧ x.1 347 4 = m 0 34 ∧ _ := b6
  exact ⟨c1, c2, b1, b2, b3, b4, b5, ⟨rfl, b6'.2.1, fun z => absurd (show nI 0 = 1 from z) (by decide)⟩, b7, b8⟩
theorem place_rel {x : xD} {m : mD} {v d : Nat} {q : Int32} (h : R3 x m) (hv : v < 8) (hd : d < 4) : R3 (ab_up x.1 355 (4 * v + d) q, x.2) (ab_up m 15 (4 * (v + 4) + d) q) := by
  have b5' := rOpe_of h
  obtain ⟨r1, r2, b1, b2, b3, b4, b5, b6, b7, b8⟩ := h
  obtain ⟨c1, c2⟩ := RMH.rest (x' := (ab_up x.1 355 (4 * v + d) q, x.2)) (m' := ab_up m 15 (4 * (v + 4) + d) q) r1 r2 rfl (fun q j _ hq => ab_up_ne (by omega)) (fun q j hq => ab_up_ne (by omega)) (fun j hj => ab_up_ne (by omega))
  refine ⟨c1, c2, b1, b2, b3, b4, fun u e hu he => ?_, b6, b7, b8⟩
  show x.1 354 (4 * u + e) = m 14 (4 * (u + 4) + e) ∧ (¬ m 14 (4 * (u + 4) + e) < 0 → ab_up x.1 355 (4 * v + d) q 355 (4 * u + e) = ab_up m 15 (4 * (v + 4) + d) q 15 (4 * (u + 4) + e))
  obtain ⟨q1, q2⟩ := b5' u e hu he
  refine ⟨q1, fun z => ?_⟩
  by_cases e0 : 4 * u + e = 4 * v + d
  · have e1 : 4 * (u + 4) + e = 4 * (v + 4) + d := by omega
    rw [e0, e1, ab_up_eq, ab_up_eq]
  · rw [ab_up_nj e0, ab_up_nj (by omega)]; exact q2 z
theorem grow_rel {x : xD} {m : mD} {g : Nat} {q : Int32} (h : R3 x m) (hg : g < 16) : R3 (ab_up x.1 350 g q, x.2) (ab_up m 17 g q) := by
  obtain ⟨t1, t2, t3, t4, t5⟩ := rTab_of h
  obtain ⟨r1, r2, b1, b2, b3, b4, b5, b6, b7, b8⟩ := h
  obtain ⟨c1, c2⟩ := RMH.rest (x' := (ab_up x.1 350 g q, x.2)) (m' := ab_up m 17 g q) r1 r2 rfl (fun q j _ hq => ab_up_ne (by omega)) (fun q j hq => ab_up_ne (by omega)) (fun j hj => ab_up_ne (by omega))
  refine ⟨c1, c2, b1, b2, b3, ?_, b5, b6, b7, b8⟩
  show (∀ i, i < 16 → x.1 349 i = m 16 i) ∧ (∀ i, i < 16 → m 16 i = 1 → ab_up x.1 350 g q 350 i = ab_up m 17 g q 17 i ∧ ∀ b2, b2 < 4 → ¬ m 18 (4 * i + b2) < 0 → x.1 351 (4 * i + b2) = m 18 (4 * i + b2)) ∧ (∀ i, i < 24 → x.1 352 i = m 19 i) ∧ x.1 348 4 = nI (cnt (fun i => decide (m 16 i = 1)) 16) ∧ x.1 348 5 = nI (cnt (fun i => decide (m 19 i = 0)) 24)
  refine ⟨t1, fun i hi hth => ⟨?_, (t2 i hi hth).2⟩, t3, t4, t5⟩
  by_cases e : i = g
  · subst e; rw [ab_up_eq, ab_up_eq]
  · rw [ab_up_nj e, ab_up_nj e]; exact (t2 i hi hth).1
theorem FX7_setPlace_eq {x : xD} {m : mD} {v d g : Nat} {q : Int32} (h : R3 x m) (ho : iOpe m) (hv : v < 8) (hd : d < 4) (hg : g < 16) (e14 : m 14 (4 * (v + 4) + d) = nI g) : FX7_setPlace (nI (v + 4)) (nI d) q x = (ab_up x.1 355 (4 * v + d) q, x.2) ∧ DX7_setPlace (nI (v + 4)) (nI d) q x := by
  obtain ⟨a1, -, -, -, a5, -⟩ := at_open h ho hv hd hg e14
  have n1 : ¬ FX7_slot (nI (v + 4)) (nI d) x = -1 := by rw [a5]; exact nI_ne_m1 _ (by omega)
  have dd : ¬ FX7_slot (nI (v + 4)) (nI d) x < 0 ∧ (FX7_slot (nI (v + 4)) (nI d) x).toNatClampNeg < 32 ∧ True := by
    rw [a5, slot_cl hv hd]
    exact ⟨nI_pos (by omega), by omega, trivial⟩
  rw [FX7_setPlace, DX7_setPlace, if_neg n1]
  refine ⟨?_, a1, fun _ => trivial, fun _ => dd⟩
  dsimp only
  rw [a5, slot_cl hv hd]
theorem FX4_growOver_eq {x : xD} {g P S : Nat} (hg : g < 16) (hP : P < 32) (hS : S ≤ 32) (h349 : ¬ x.1 349 g = 0) (h350 : x.1 350 g = nI S) : FX4_growOver (nI g) (nI P) x = (ab_up x.1 350 g (if P = S then nI (S + 1) else nI S), x.2) ∧ DX4_growOver (nI g) (nI P) x := by
  obtain ⟨h1, h2⟩ := has_of hg h349
  have hc : (nI g).toNatClampNeg = g := nI_clamp (by omega)
  have c32 : ¬ nI 32 ≤ nI P := nI_ge hP (by decide)
  have pg := nI_pos (n := g) (by omega)
  rw [FX4_growOver, DX4_growOver, if_neg h1, hc, h350]
  refine ⟨?_, h2, fun z => absurd z h1, fun _ => ⟨pg, hg, fun _ => ⟨fun z => absurd z c32, fun _ => ⟨pg, hg, trivial⟩⟩, fun _ => trivial⟩⟩
  by_cases c : P = S
  · subst c
    rw [if_pos rfl, if_neg c32, if_pos rfl, nI_inc]
  · rw [if_neg (fun z => c ((nI_eq (by omega) (by omega)).mp z)), if_neg c, ab_up_self h350]
def gF (W : Int32) (a : Int32) (F : Nat → Int32) (i : Nat) : Int32 := if nI i = W then a else F i
theorem FX3_goOn_51_l {c : mD} {r : Nat → Nat → Nat} {f : Nat} {W : Int32} (hf : isX f 100) (hf8 : (shX f).2 = 8) (hn : f < 347) (hD : DX3_ask (nI 21) (fil c 356 0 8 (gF W (c 347 8) (c f)), r)) : ∀ (n k : Nat), k ≤ 8 → 8 - k < n → FX3_goOn_51 n f W k (fil c 356 0 k (gF W (c 347 8) (c f)), r) = FX3_ask (nI 21) (fil c 356 0 8 (gF W (c 347 8) (c f)), r) ∧ DX3_goOn_51 n f W k (fil c 356 0 k (gF W (c 347 8) (c f)), r) := by
  intro n
  induction n with
  | zero => intro k _ h; omega
  | succ n ih =>
    intro k hk hn2
    by_cases e8 : 8 ≤ k
    · have e : k = 8 := by omega
      subst e
      rw [FX3_goOn_51, DX3_goOn_51, if_pos e8]
      exact ⟨rfl, by decide, fun _ => ⟨hD, trivial⟩, fun z => absurd e8 z⟩
    · obtain ⟨i1, i2⟩ := ih (k + 1) (by omega) (by omega)
      have es := fil_s (m := c) (q := 356) (lo := 0) (k := k) (g := gF W (c 347 8) (c f))
      rw [Nat.zero_add] at es
      rw [FX3_goOn_51, DX3_goOn_51, if_neg e8, hf8]
      dsimp only
      rw [fil_q (show 347 ≠ 356 by decide), fil_q (show f ≠ 356 by omega)]
      by_cases c0 : nI k = W
      · have eg : gF W (c 347 8) (c f) k = c 347 8 := if_pos c0
        rw [eg] at es
        rw [if_pos c0, es]
        exact ⟨i1, by omega, fun z => absurd z e8, fun _ => ⟨fun _ => ⟨by omega, i2⟩, fun z => absurd c0 z⟩⟩
      · have eg : gF W (c 347 8) (c f) k = c f k := if_neg c0
        rw [eg] at es
        rw [if_neg c0, es]
        exact ⟨i1, by omega, fun z => absurd z e8, fun _ => ⟨fun z => absurd z c0, fun _ => ⟨hf, by omega, by omega, by omega, i2⟩⟩⟩
def mG2 (m : mD) : mD := ab_up (ab_up m 0 36 (nI 3)) 0 40 (nI 21)
theorem FgoesOn_79_l {m : mD} {P : Nat} (hP : P < 33) (hD : DasksDriver (mG2 (fil m 22 0 8 (gF (nI (P % 8)) (m 0 39) (fun i => m 6 (5 + i)))))) : ∀ (n k : Nat), k ≤ 8 → 8 - k < n → FgoesOn_79 n (nI P) k (fil m 22 0 k (gF (nI (P % 8)) (m 0 39) (fun i => m 6 (5 + i)))) = FasksDriver (mG2 (fil m 22 0 8 (gF (nI (P % 8)) (m 0 39) (fun i => m 6 (5 + i))))) ∧ DgoesOn_79 n (nI P) k (fil m 22 0 k (gF (nI (P % 8)) (m 0 39) (fun i => m 6 (5 + i)))) := by
  intro n
  induction n with
  | zero => intro k _ h; omega
  | succ n ih =>
    intro k hk hn2
    by_cases e8 : 8 ≤ k
    · have e : k = 8 := by omega
      subst e
      rw [FgoesOn_79, DgoesOn_79, if_pos e8]
      exact ⟨rfl, by decide, fun _ => ⟨hD, trivial⟩, fun z => absurd e8 z⟩
    · obtain ⟨i1, i2⟩ := ih (k + 1) (by omega) (by omega)
      have es := fil_s (m := m) (q := 22) (lo := 0) (k := k) (g := gF (nI (P % 8)) (m 0 39) (fun i => m 6 (5 + i)))
      rw [Nat.zero_add] at es
      rw [FgoesOn_79, DgoesOn_79, if_neg e8, pk_rem (show P < 2 ^ 31 by omega) (by decide) (by decide), fil_q (show 0 ≠ 22 by decide), fil_q (show 6 ≠ 22 by decide)]
      by_cases c0 : nI k = nI (P % 8)
      · have eg : gF (nI (P % 8)) (m 0 39) (fun i => m 6 (5 + i)) k = m 0 39 := if_pos c0
        rw [eg] at es
        rw [if_pos c0, es]
        exact ⟨i1, by omega, fun z => absurd z e8, fun _ => ⟨fun _ => ⟨by omega, i2⟩, fun z => absurd c0 z⟩⟩
      · have eg : gF (nI (P % 8)) (m 0 39) (fun i => m 6 (5 + i)) k = m 6 (5 + k) := if_neg c0
        rw [eg] at es
        rw [if_neg c0, es]
        exact ⟨i1, by omega, fun z => absurd z e8, fun _ => ⟨fun z => absurd z c0, fun _ => ⟨by omega, by omega, i2⟩⟩⟩
/-- what FILES waits for -/
def iWai (m : mD) : Prop := m 0 35 = 1 → ∃ v d g P S B, v < 8 ∧ d < 4 ∧ g < 16 ∧ P ≤ S ∧ S ≤ 32 ∧ P < 32 ∧ B < 24 ∧ m 0 37 = nI (v + 4) ∧ m 0 38 = nI (4 * (v + 4) + d) ∧ m 14 (4 * (v + 4) + d) = nI g ∧ m 16 g = 1 ∧ m 15 (4 * (v + 4) + d) = nI P ∧ m 17 g = nI S ∧ m 0 41 = nI B ∧ m 18 (4 * g + P / 8) = nI B ∧ ((m 0 36 = nI 1 ∧ m 0 40 = nI 20 ∧ P < S) ∨ (m 0 36 = nI 2 ∧ m 0 40 = nI 20) ∨ (m 0 36 = nI 3 ∧ m 0 40 = nI 21))
theorem add_cancel {a b c : Int32} (h : a + b = a + c) : b = c := by
  have := congrArg (fun z => -a + z) h
  simp only [← Int32.add_assoc, Int32.add_left_neg, Int32.zero_add] at this
  exact this
