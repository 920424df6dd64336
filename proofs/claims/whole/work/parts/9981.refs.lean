/-! the class's references at the start are those of sX -/
section BOR
variable {r : Nat → Nat → Option Nat} {b : Nat}
theorem boR_self : ∀ k j, boR r b k b j = if j = 0 then some (b + 1) else r b j
  | 0, j => by
    rw [boR]
    by_cases c : j = 0
    · subst c; rw [if_pos rfl, ab_up_eq]
    · rw [if_neg c, ab_up_nj c]
  | k + 1, j => by rw [boR, msR, ab_up_ne (by omega), ab_up_ne (by omega)]; exact boR_self k j
theorem boR_row2 : ∀ k j, boR r b k (b + 1) j = if j < k then some (b + 2 + 2 * j) else r (b + 1) j
  | 0, j => by rw [boR, ab_up_ne (by omega), if_neg (by omega)]
  | k + 1, j => by
    rw [boR]
    by_cases c : j = k
    · subst c; rw [ab_up_eq, if_pos (by omega)]
    · rw [ab_up_nj c, msR, ab_up_ne (by omega), boR_row2 k j]
      by_cases c2 : j < k
      · rw [if_pos c2, if_pos (by omega)]
      · rw [if_neg c2, if_neg (by omega)]
theorem boR_msg : ∀ k i j, boR r b k (b + 2 + 2 * i) j = if i < k ∧ j = 0 then some (b + 2 + 2 * i + 1) else r (b + 2 + 2 * i) j
  | 0, i, j => by rw [boR, ab_up_ne (by omega), if_neg (by omega)]
  | k + 1, i, j => by
    rw [boR, ab_up_ne (by omega), msR]
    by_cases c : i = k ∧ j = 0
    · obtain ⟨rfl, rfl⟩ := c
      rw [ab_up_eq, if_pos ⟨by omega, rfl⟩]
    · rw [ab_up_na (by omega), boR_msg k i j]
      by_cases c2 : i < k ∧ j = 0
      · rw [if_pos c2, if_pos (by omega)]
      · rw [if_neg c2, if_neg (by omega)]
theorem boR_num : ∀ k i j, boR r b k (b + 3 + 2 * i) j = r (b + 3 + 2 * i) j
  | 0, i, j => by rw [boR, ab_up_ne (by omega)]
  | k + 1, i, j => by rw [boR, msR, ab_up_ne (by omega), ab_up_ne (by omega)]; exact boR_num k i j
theorem boR_hi {q j : Nat} (hq : b + 26 ≤ q) : ∀ k, k ≤ 12 → boR r b k q j = r q j
  | 0, _ => ab_up_ne (by omega)
  | k + 1, hk => by rw [boR, msR, ab_up_ne (by omega), ab_up_ne (by omega)]; exact boR_hi hq k (by omega)
theorem coR_2 : ∀ p j, coR r p 2 j = if j < p then some (7 + 28 * j) else r 2 j
  | 0, j => by rw [coR, msR, ab_up_ne (by omega), ab_up_ne (by omega), ab_up_ne (by omega), ab_up_ne (by omega), ab_up_ne (by omega), if_neg (by omega)]
  | p + 1, j => by
    rw [coR, msR, ab_up_ne (by omega), ab_up_ne (by omega)]
    by_cases c : j = p
    · subst c; rw [ab_up_eq, if_pos (by omega)]
    · rw [ab_up_nj c, boR_low (by omega), coR_2 p j]
      by_cases c2 : j < p
      · rw [if_pos c2, if_pos (by omega)]
      · rw [if_neg c2, if_neg (by omega)]
theorem coR_4 : ∀ p j, coR r p 4 j = if j < p then some (33 + 28 * j) else r 4 j
  | 0, j => by rw [coR, msR, ab_up_ne (by omega), ab_up_ne (by omega), ab_up_ne (by omega), ab_up_ne (by omega), ab_up_ne (by omega), if_neg (by omega)]
  | p + 1, j => by
    rw [coR]
    by_cases c : j = p
    · subst c; rw [ab_up_eq, if_pos (by omega)]
    · rw [ab_up_nj c, msR, ab_up_ne (by omega), ab_up_ne (by omega), boR_low (by omega), coR_4 p j]
      by_cases c2 : j < p
      · rw [if_pos c2, if_pos (by omega)]
      · rw [if_neg c2, if_neg (by omega)]
theorem coR_up {q j a : Nat} (hq : q < 7 + 28 * a) (h2 : ¬ q = 2) (h4 : ¬ q = 4) : ∀ d, coR r (a + d) q j = coR r a q j
  | 0 => rfl
  | d + 1 => by
    show coR r (a + d + 1) q j = _
    rw [coR, msR, ab_up_ne (by omega), ab_up_ne (by omega), ab_up_ne (by omega), boR_low (by omega)]
    exact coR_up hq h2 h4 d
end BOR
def z1 : Nat → Nat → Option Nat := fun _ _ => none
theorem z1_Fr : Fr 2 (fun _ _ => 0) z1 := fun _ _ => ⟨fun _ => rfl, fun _ => rfl⟩
/-- the core and its boxes -/
theorem coR_box {p t j : Nat} (hp : p < 12) (ht : t < 28) : coR z1 12 (7 + 28 * p + t) j = crX (fun q k => q + 1 + 2 * k) (7 + 28 * p + t) j := by
  have e : coR z1 12 (7 + 28 * p + t) j = coR z1 (p + 1) (7 + 28 * p + t) j := by
    have := coR_up (r := z1) (q := 7 + 28 * p + t) (j := j) (a := p + 1) (by omega) (by omega) (by omega) (12 - (p + 1))
    rw [show p + 1 + (12 - (p + 1)) = 12 by omega] at this
    exact this
  have zb : ∀ q, 7 + 28 * p ≤ q → ∀ j, coR z1 p q j = none := fun q hq j => ((Fr.co z1_Fr p) q hq).2 j
  have hm : (7 + 28 * p + t - 7) % 28 = t := by omega
  have hm2 : (7 + 28 * p + t - 7) % 2 = t % 2 := by omega
  rw [e, coR, ab_up_ne (by omega), crX, if_neg (by omega), if_neg (by omega), if_neg (by omega), hm, hm2]
  by_cases c26 : t = 26
  · subst c26
    rw [show 7 + 28 * p + 26 = 33 + 28 * p by omega, msR, if_neg (by omega)]
    by_cases cj : j = 0
    · subst cj; rw [ab_up_eq, if_pos ⟨rfl, rfl⟩]
    · rw [ab_up_nj cj, ab_up_ne (by omega), boR_hi (by omega) 12 (by omega), zb _ (by omega), if_neg (by omega)]
  · rw [msR, ab_up_ne (by omega), ab_up_ne (by omega)]
    by_cases c27 : t = 27
    · rw [boR_hi (by omega) 12 (by omega), zb _ (by omega), if_neg (by omega), if_neg (by omega)]
    · by_cases c0 : t = 0
      · subst c0
        rw [Nat.add_zero, boR_self, if_neg (show ¬ 0 = 1 by decide)]
        by_cases cj : j = 0
        · rw [if_pos cj, if_pos ⟨cj, rfl⟩]
        · rw [if_neg cj, if_neg (by omega), zb _ (by omega)]
      · by_cases c1 : t = 1
        · subst c1
          rw [boR_row2, if_pos rfl]
          by_cases cj : j < 12
          · rw [if_pos cj, if_pos cj]
          · rw [if_neg cj, if_neg cj, zb _ (by omega)]
        · rw [if_neg c1]
          by_cases c2 : t % 2 = 0
          · rw [show 7 + 28 * p + t = 7 + 28 * p + 2 + 2 * (t / 2 - 1) by omega, boR_msg]
            by_cases cj : j = 0
            · rw [if_pos ⟨by omega, cj⟩, if_pos ⟨cj, c2⟩]
            · rw [if_neg (by omega), if_neg (by omega), zb _ (by omega)]
          · rw [show 7 + 28 * p + t = 7 + 28 * p + 3 + 2 * (t / 2 - 1) by omega, boR_num, zb _ (by omega), if_neg (by omega)]
theorem coR_low : ∀ q, q < 7 → ∀ j, j < 12 → (q = 0 ∨ q = 2 ∨ q = 4) ∨ coR z1 0 q j = crX (fun q k => q + 1 + 2 * k) q j := by decide +kernel
theorem coR_hi {q j : Nat} (hq : 343 ≤ q) : coR z1 12 q j = none := ((Fr.co z1_Fr 12) q (by omega)).2 j
theorem coR_z {j : Nat} : coR z1 12 0 j = none := by
  have := coR_up (r := z1) (q := 0) (j := j) (a := 0) (by omega) (by omega) (by omega) 12
  rw [show 0 + 12 = 12 by omega] at this
  rw [this, coR, msR, ab_up_ne (by omega), ab_up_ne (by omega), ab_up_ne (by omega), ab_up_ne (by omega), ab_up_ne (by omega)]
  rfl
theorem coR_in {q j : Nat} (h0 : ¬ q = 0) (hq : q < 343) (hj : j < 12) : coR z1 12 q j = crX (fun q k => q + 1 + 2 * k) q j := by
  by_cases c : q < 7
  · by_cases c2 : q = 2
    · subst c2; rw [coR_2, if_pos hj, crX, if_pos rfl, if_pos hj]
    · by_cases c4 : q = 4
      · subst c4; rw [coR_4, if_pos hj, crX, if_neg (by omega), if_pos rfl, if_pos hj]
      · have := coR_up (r := z1) (q := q) (j := j) (a := 0) (by omega) c2 c4 12
        rw [show 0 + 12 = 12 by omega] at this
        rw [this]
        exact (coR_low q c j hj).resolve_left (by omega)
  · have := coR_box (p := (q - 7) / 28) (t := (q - 7) % 28) (j := j) (by omega) (by omega)
    rw [show 7 + 28 * ((q - 7) / 28) + (q - 7) % 28 = q by omega] at this
    exact this
/-- what the house sets outside the core -/
def oX (r : Nat → Nat → Option Nat) : Nat → Nat → Option Nat := ab_up (rX9 (ab_up (rX8 (ab_up (rX3 (ab_up (rX2 (ab_up (rX5 (ab_up r 0 0 (some 1))) 0 1 (some 343))) 0 2 (some 344))) 0 3 (some 347))) 0 4 (some 357))) 0 5 (some 362)
theorem oX_mid {r : Nat → Nat → Option Nat} {q j : Nat} (h0 : ¬ q = 0) (hq : q < 343) : oX r q j = r q j := by
  unfold oX rX9 rX8 rX3 rX7 rX4 rX2 rX5
  repeat rw [ab_up_ne (by omega)]
theorem oX_congr {r r' : Nat → Nat → Option Nat} {q j : Nat} (h : r q j = r' q j) : oX r q j = oX r' q j := by
  unfold oX rX9 rX8 rX3 rX7 rX4 rX2 rX5
  simp only [ab_up, h]
theorem oX_z : ∀ q, q < 366 → ∀ j, j < 12 → (q = 0 ∨ 343 ≤ q) → oX z1 q j = crX (fun q k => q + 1 + 2 * k) q j := by decide +kernel
theorem rX_in : ∀ q, q < 366 → ∀ j, j < 12 → rX10 (fun _ _ => none) q j = crX (fun q k => q + 1 + 2 * k) q j := by
  intro q hq j hj
  show oX (coR z1 12) q j = _
  by_cases c : q = 0 ∨ 343 ≤ q
  · rw [← oX_z q hq j hj c]
    refine oX_congr ?_
    rcases c with rfl | c
    · exact coR_z
    · exact coR_hi c
  · rw [oX_mid (by omega) (by omega)]
    exact coR_in (by omega) (by omega) hj
theorem rX_eq : rX10 (fun _ _ => none) = crX x0.2 := by
  funext q j
  by_cases h : 366 ≤ q ∨ 12 ≤ j
  · rw [Bd_0 q j h, crX_no h]
  · exact rX_in q (by omega) j (by omega)
theorem sX_0 : sN shX 366 (iX10 (fun _ _ => 0)) (rX10 (fun _ _ => none)) = sX x0 := by rw [rX_eq]; rfl
theorem sM_0 : sN shM 23 iM4 rM0 = sM m0 := by rw [rM_eq]; rfl
