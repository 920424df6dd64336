/-! NEW OBJECTS: class and reference agree at the start -/
def x0 : xD := (iX10 (fun _ _ => 0), fun q k => q + 1 + 2 * k)
abbrev m0 : mD := iM4
theorem m0_2 : ∀ t, t < 12 → m0 2 t = nI 0 := by decide +kernel
theorem m0_5 : ∀ p, p < 12 → m0 5 p = -1 := by decide +kernel
theorem m0_11 : ∀ p, p < 12 → m0 11 p = -1 := by decide +kernel
theorem m0_14 : ∀ p, p < 48 → m0 14 p = -1 := by decide +kernel
theorem m0_16 : ∀ p, p < 16 → m0 16 p = 0 := by decide +kernel
theorem m0_18 : ∀ p, p < 64 → m0 18 p = -1 := by decide +kernel
theorem m0_7 : ∀ p, p < 12 → 4 ≤ p → m0 7 p = 0 ∨ m0 7 p = 1 ∨ m0 7 p = 2 := by decide +kernel
theorem m0_0 : m0 0 23 = 1 ∧ m0 0 25 = nI 1 ∧ m0 0 27 = 0 ∧ m0 0 33 = 0 ∧ m0 0 34 = nI 1 ∧ m0 0 35 = 0 ∧ m0 0 43 = 0 ∧ m0 0 48 = nI 0 := by decide +kernel
theorem m0_cnt : cnt (fun i => decide (m0 16 i = 1)) 16 ≤ 8 := by decide +kernel
theorem x0_7 : ∀ p, p < 12 → x0.1 (7 + 28 * p) 1 = nI 0 := by decide +kernel
theorem x0_33 : ∀ p, p < 12 → x0.1 (33 + 28 * p) 7 = -1 := by decide +kernel
theorem x0_3 : ∀ p, p < 12 → x0.1 3 p = Flives p m0 := by decide +kernel
theorem x0_1 : x0.1 1 4 = m0 0 25 ∧ x0.1 1 5 = m0 0 6 ∧ x0.1 1 6 = m0 0 7 := by decide +kernel
theorem ne1_0 : ¬ (0 : Int32) = 1 := by decide
theorem r0_a : rHou (nx x0.1) (nm m0) := by unfold rHou; decide +kernel
theorem r0_b : rKee (nx x0.1) (nm m0) := by unfold rKee; decide +kernel
theorem r0_c : rDri (nx x0.1) (nm m0) := by unfold rDri; decide +kernel
theorem r0_d : rTab (nx x0.1) (nm m0) := by unfold rTab; decide +kernel
theorem r0_e : rOpe (nx x0.1) (nm m0) := fun u d hu hd => (show ∀ u, u < 8 → ∀ d, d < 4 → (nx x0.1) 354 (4 * u + d) = (nm m0) 14 (4 * (u + 4) + d) ∧ (¬ (nm m0) 14 (4 * (u + 4) + d) < 0 → (nx x0.1) 355 (4 * u + d) = (nm m0) 15 (4 * (u + 4) + d)) by decide +kernel) u hu d hd
theorem r0_f : rFil (nx x0.1) (nm m0) := by unfold rFil; decide +kernel
theorem r0_g : rPro (nx x0.1) (nm m0) := by unfold rPro; decide +kernel
theorem r0_h : rUse (nx x0.1) (nm m0) := by unfold rUse; decide +kernel
theorem R3_0 : R3 x0 m0 := by
  refine ⟨⟨fun p hp => ⟨fun k hk => ⟨k, hk, ?_⟩, fun k l hk hl e => ?_⟩, fun p hp => ⟨0, by omega, m0_2 p hp, x0_7 p hp, fun k hk => absurd hk (by omega)⟩, x0_3, x0_1.1, x0_1.2.1, x0_1.2.2⟩, fun p hp => ⟨(x0_33 p hp).trans (m0_5 p hp).symm, Or.inl (m0_5 p hp)⟩, r0_a, r0_b, r0_c, r0_d, r0_e, r0_f, r0_g, r0_h⟩
  · show 8 + 28 * p + 1 + 2 * k = 9 + 28 * p + 2 * k
    omega
  · have e : 8 + 28 * p + 1 + 2 * k = 8 + 28 * p + 1 + 2 * l := e
    omega
theorem Inv_0 : Inv 0 m0 := by
  obtain ⟨z23, z25, z27, z33, z34, z35, z43, z48⟩ := m0_0
  have hv : ∀ t M k, t < 12 → M ≤ 12 → m0 2 t = nI M → k < M → False := fun t M k ht hM e hk => by
    rw [m0_2 t ht] at e
    have : 0 = M := (nI_eq (by decide) (by omega)).mp e
    omega
  have h5 : ∀ p t, p < 12 → t < 12 → ¬ m0 5 p = nI t := fun p t hp ht e => nI_ne_m1 t (by omega) (by rw [← e]; exact m0_5 p hp)
  have h16 : ∀ i, i < 16 → ¬ m0 16 i = 1 := fun i hi e => ne1_0 ((m0_16 i hi).symm.trans e)
  have n23 : ¬ m0 0 23 = 0 := by rw [z23]; decide
  have n35 : ¬ m0 0 35 = 1 := by rw [z35]; decide
  have n43 : ¬ m0 0 43 = 1 := by rw [z43]; decide
  have n1 : (-1 : Int32) < 0 := by decide
  refine ⟨⟨⟨fun t ht => ⟨0, by omega, m0_2 t ht⟩, fun p hp => Or.inl (m0_5 p hp)⟩, ⟨fun t M k ht hM e hk => (hv t M k ht hM e hk).elim, fun p t hp ht e => absurd e (h5 p t hp ht)⟩, ⟨0, ?_⟩, Or.inr z23⟩, ⟨Or.inl z33, fun z => absurd z n23, Or.inl z27, 1, 1, by omega, by omega, by omega, z34, z25⟩, ⟨m0_7, fun c hc h4 => Or.inl (m0_11 c hc), fun z => absurd z n43, fun u hu _ => m0_5 u hu, Or.inl z43⟩, fun u d hu hd => Or.inl (m0_14 _ (by omega)), fun v d g hv hd hg e => absurd ((m0_14 _ (by omega)).symm.trans e).symm (nI_ne_m1 g (by omega)), fun i hi => Or.inl (m0_16 i hi), ⟨fun i hi _ b hb => by rw [m0_18 _ (by omega)]; exact n1, m0_cnt⟩, fun k hk => m0_14 k (by omega), fun i hi => Or.inl (m0_18 i hi), fun i hi e => absurd e (h16 i hi), fun z => absurd z n35, Or.inl z35, fun i S b hi e => absurd e (h16 i hi)⟩
  exact ⟨fun M k hM e hk _ => (hv 1 M k (by omega) hM e hk).elim, fun M i j hM e hi hj _ => (hv 1 M j (by omega) hM e hj).elim, fun z => absurd z27 z, fun z => absurd z (h5 2 1 (by omega) (by omega)), fun M k hM e hk _ => (hv 2 M k (by omega) hM e hk).elim, fun z => absurd z (h5 1 2 (by omega) (by omega)), fun z => absurd rfl z, fun z => by omega, fun M i j hM e hi hj => (hv 2 M j (by omega) hM e hj).elim, fun M k hM e hk _ => (hv 2 M k (by omega) hM e hk).elim, fun z => absurd z (h5 0 2 (by omega) (by omega))⟩
theorem JJ_0 : JJ 0 x0 m0 := ⟨R3_0, Inv_0, 0, by omega, m0_0.2.2.2.2.2.2.2⟩
/-! the references are those of sX, sM -/
theorem rM_eq : rM0 = crM := by
  funext q j
  by_cases hq : q = 0
  · subst hq
    by_cases hj : j < 49
    · exact (by decide +kernel : ∀ j, j < 49 → rM0 0 j = crM 0 j) j hj
    · have h1 : rM0 0 j = none := by
        unfold rM0
        repeat rw [ab_up_nj (by omega)]
      rw [h1, crM, if_pos rfl, eq_comm, List.lookup_eq_none_iff]
      intro p hp
      have h2 : ∀ p ∈ ([(1, 1), (2, 2), (3, 3), (4, 4), (5, 5), (8, 6), (9, 7), (10, 8), (11, 9), (12, 10), (13, 11), (14, 12), (15, 13), (16, 14), (17, 15), (18, 16), (19, 17), (20, 18), (21, 19), (22, 20), (29, 21), (42, 22)] : List (Nat × Nat)), p.1 < 49 := by decide
      have := h2 p hp
      simp only [bne_iff_ne, ne_eq]
      omega
  · have h1 : rM0 q j = none := by
      unfold rM0
      repeat rw [ab_up_ne hq]
    rw [h1, crM, if_neg hq]
def Bd (r : Nat → Nat → Option Nat) : Prop := ∀ q j, (366 ≤ q ∨ 12 ≤ j) → r q j = none
theorem Bd.u {r : Nat → Nat → Option Nat} {q j : Nat} {w : Option Nat} (h : Bd r) (hq : q < 366) (hj : j < 12) : Bd (ab_up r q j w) := fun a b hab => by rw [ab_up_na (by omega)]; exact h a b hab
theorem Bd.bo {b : Nat} {r : Nat → Nat → Option Nat} (h : Bd r) (hb : b + 26 < 366) : ∀ k, k ≤ 12 → Bd (boR r b k)
  | 0, _ => h.u (by omega) (by omega)
  | k + 1, hk => ((Bd.bo h hb k (by omega)).u (by omega) (by omega)).u (by omega) (by omega)
theorem Bd.co {r : Nat → Nat → Option Nat} (h : Bd r) : ∀ k, k ≤ 12 → Bd (coR r k)
  | 0, _ => ((((h.u (by omega) (by omega)).u (by omega) (by omega)).u (by omega) (by omega)).u (by omega) (by omega)).u (by omega) (by omega)
  | k + 1, hk => (((((Bd.co h k (by omega)).bo (b := 7 + 28 * k) (by omega) 12 (by omega))).u (by omega) (by omega)).u (by omega) (by omega)).u (by omega) (by omega)
theorem Bd_0 : Bd (rX10 (fun _ _ => none)) := by
  have h := Bd.co (r := fun _ _ => none) (fun _ _ _ => rfl) 12 (by omega)
  unfold rX10 rX9 rX8 rX3 rX7 rX4 rX2 rX5
  repeat' (first | with_reducible exact h | (with_reducible refine Bd.u ?_ (by omega) (by omega)))
theorem crT_no {q j : Nat} (h : 366 ≤ q ∨ 12 ≤ j) : crT q j = none := by
  unfold crT
  rw [List.lookup_eq_none_iff]
  intro p hp
  have h2 : ∀ p ∈ ([((0, 0), 1), ((0, 1), 343), ((0, 2), 344), ((0, 3), 347), ((0, 4), 357), ((0, 5), 362), ((1, 0), 2), ((1, 1), 3), ((1, 2), 4), ((1, 3), 5), ((5, 0), 6), ((344, 0), 345), ((344, 1), 346), ((347, 0), 348), ((347, 1), 353), ((347, 3), 356), ((348, 0), 349), ((348, 1), 350), ((348, 2), 351), ((348, 3), 352), ((353, 0), 354), ((353, 1), 355), ((357, 0), 358), ((357, 1), 359), ((357, 2), 360), ((357, 3), 361), ((362, 0), 363), ((362, 1), 364), ((362, 2), 365)] : List ((Nat × Nat) × Nat)), p.1.1 < 366 ∧ p.1.2 < 12 := by decide
  have := h2 p hp
  simp only [bne_iff_ne, ne_eq]
  intro e
  rw [← e] at this
  have t1 : q < 366 := this.1
  have t2 : j < 12 := this.2
  omega
theorem crX_no {q j : Nat} {r : Nat → Nat → Nat} (h : 366 ≤ q ∨ 12 ≤ j) : crX r q j = none := by
  unfold crX
  by_cases c1 : q = 2
  · rw [if_pos c1, if_neg (by omega)]
  · rw [if_neg c1]
    by_cases c2 : q = 4
    · rw [if_pos c2, if_neg (by omega)]
    · rw [if_neg c2]
      by_cases c3 : q < 7 ∨ 343 ≤ q
      · rw [if_pos c3, crT_no h]
      · rw [if_neg c3]
        by_cases c4 : (q - 7) % 28 = 1
        · rw [if_pos c4, if_neg (by omega)]
        · rw [if_neg c4, if_neg (by omega)]
