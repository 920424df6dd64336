/-! POST of the class: what the core tells, and what changes -/
theorem isPart_ok : ∀ t, t < 12 → FX10_isPart (nI t) = nI 1 := by decide +kernel
theorem isPart_nz {t : Nat} (h : t < 12) : ¬ FX10_isPart (nI t) = 0 := by rw [isPart_ok t h]; decide
theorem allowed_eq : ∀ f, f < 12 → ∀ t, t < 12 → ((ab_al f >>> (nI t &&& 31)) &&& nI 1 = 0 ↔ FisAllowed (nI f) (nI t) = 0) := by decide +kernel
theorem FX0_grow_eq {t M : Nat} {x : xD} (ht : t < 12) (hr : rowsOK x.2) (hM : M ≤ 12) (hs : x.1 (7 + 28 * t) 1 = nI M) : FX0_grow (7 + 28 * t) x = (if M = 12 then (none, x) else (some (xm x t M), (ab_up x.1 (7 + 28 * t) 1 (nI (M + 1)), x.2))) ∧ DX0_grow (7 + 28 * t) x := by
  have e8 : 7 + 28 * t + 1 = 8 + 28 * t := by omega
  by_cases h : M = 12
  · subst h
    have hc : ¬ nI 12 < nI 12 := by decide
    rw [FX0_grow, DX0_grow, hs, if_neg hc, if_pos rfl]
    exact ⟨rfl, isX_box ht, fun z => absurd z hc, fun _ => trivial⟩
  · have hlt : M < 12 := by omega
    have hc : nI M < nI 12 := (nI_ltI (by omega) (by decide)).mpr hlt
    have e1 : nI M + nI 1 = nI (M + 1) := nI_add M 1
    have e2 : nI (M + 1) - nI 1 = nI M := pk_sub (by omega)
    rw [FX0_grow, DX0_grow, hs, if_pos hc, if_neg h]
    dsimp only
    rw [e1, ab_up_eq, e2, nI_clamp (by omega), e8]
    exact ⟨rfl, isX_box ht, fun _ => ⟨nI_pos (by omega), hlt, isX_xm hr ht hlt, trivial⟩, fun z => absurd hc z⟩
def xForb (x : xD) : xD := (ab_up x.1 1 5 (x.1 1 5 + 1), x.2)
def xHold (q t : Nat) (x : xD) : xD := (ab_up x.1 q 7 (nI t), x.2)
def xPut (q t M : Nat) (x : xD) : xD := (ab_up (xCp (xm x t M) q (ab_up x.1 (7 + 28 * t) 1 (nI (M + 1)))) 1 6 (x.1 1 6 + 1), x.2)
theorem FX1_post_eq {q t f M : Nat} {x : xD} (hqm : q = 5 ∨ ∃ p, p < 12 ∧ q = 33 + 28 * p) (hf : x.1 q 1 = nI f) (hf12 : f < 12) (ht : t < 12) (hr : rowsOK x.2) (hM : M ≤ 12) (hs : x.1 (7 + 28 * t) 1 = nI M) :
    FX1_post q (nI t) x = (if FisAllowed (nI f) (nI t) = 0 then (nI 1, xForb x) else if x.1 3 t = 0 then (nI 2, x) else if x.1 q 6 = 0 ∨ x.1 q 6 = x.1 1 4 then (if M = 12 then (nI 3, xHold q t x) else (nI 0, xPut q t M x)) else (nI 2, x)) ∧ DX1_post q (nI t) x := by
  have hq : isX q 6 := by
    rcases hqm with rfl | ⟨p, hp, rfl⟩
    · decide
    · exact isX_dra hp
  have hct : (nI t).toNatClampNeg = t := nI_clamp (by omega)
  have hcf : (nI f).toNatClampNeg = f := nI_clamp (by omega)
  have hpf : ¬ FX10_isPart (x.1 q 1) = 0 := by rw [hf]; exact isPart_nz hf12
  have hpt : ¬ FX10_isPart (nI t) = 0 := isPart_nz ht
  have hal := allowed_eq f hf12 t ht
  obtain ⟨hg, hgD⟩ := FX0_grow_eq ht hr hM hs
  -- the two ends of a message that the core lets through
  have fin : (let z := FX0_grow (7 + 28 * (nI t).toNatClampNeg) x; ab_o z.1 (let y : xD := (ab_up z.2.1 q 7 (nI t), z.2.2); ((nI 3, y) : Int32 × xD)) (fun w => let z2 := FX6_copy w q z.2; let y : xD := (ab_up z2.1 1 6 (z2.1 1 6 + nI 1), z2.2); (nI 0, y))) = if M = 12 then (nI 3, xHold q t x) else (nI 0, xPut q t M x) := by
    dsimp only
    rw [hct, hg]
    by_cases h : M = 12
    · rw [if_pos h, if_pos h]
      rfl
    · rw [if_neg h, if_neg h]
      obtain ⟨i, hi, e⟩ := (hr t ht).1 M (by omega)
      have hw : xm x t M ≠ q ∧ xm x t M ≠ q + 1 ∧ xm x t M ≠ 1 ∧ xm x t M + 1 ≠ 1 := by
        rw [xm, e]
        rcases hqm with rfl | ⟨p, hp, rfl⟩ <;> refine ⟨by omega, by omega, by omega, by omega⟩
      show ab_o (some (xm x t M)) _ _ = _
      rw [ab_o_s rfl, (FX6_copy_eq (isX_xm hr ht (by omega)) hq hw.1 hw.2.1).1]
      dsimp only
      rw [xCp_o (Ne.symm hw.2.2.1) (Ne.symm hw.2.2.2), ab_up_ne (by omega)]
      rfl
  have finD : (¬ nI t < 0) ∧ (nI t).toNatClampNeg < 12 ∧ DX0_grow (7 + 28 * (nI t).toNatClampNeg) x ∧ (let z := FX0_grow (7 + 28 * (nI t).toNatClampNeg) x; (z.1 = none → True) ∧ ∀ w : Nat, z.1 = some w → isX w 6 ∧ DX6_copy w q z.2 ∧ True) := by
    dsimp only
    rw [hct]
    refine ⟨nI_pos (by omega), ht, hgD, fun _ => trivial, ?_⟩
    rw [hg]
    intro w hw0
    by_cases h : M = 12
    · rw [if_pos h] at hw0
      cases hw0
    · rw [if_neg h] at hw0 ⊢
      obtain ⟨i, hi, e⟩ := (hr t ht).1 M (by omega)
      have hw : xm x t M ≠ q ∧ xm x t M ≠ q + 1 := by
        rw [xm, e]
        rcases hqm with rfl | ⟨p, hp, rfl⟩ <;> refine ⟨by omega, by omega⟩
      cases hw0
      exact ⟨isX_xm hr ht (by omega), (FX6_copy_eq (isX_xm hr ht (by omega)) hq hw.1 hw.2).2, trivial⟩
  refine ⟨?_, hq, fun _ => trivial, fun _ => ⟨fun _ => trivial, fun _ => ⟨by rw [hf]; exact nI_pos (by omega), by rw [hf, hcf]; exact hf12, fun _ => trivial, fun _ => ⟨nI_pos (by omega), by rw [hct]; exact ht, fun _ => trivial, fun _ => ⟨fun _ => finD, fun _ => ⟨fun _ => finD, fun _ => trivial⟩⟩⟩⟩⟩⟩
  rw [hct] at fin
  rw [FX1_post, if_neg hpf, if_neg hpt, hf, hcf, hct]
  by_cases ha : FisAllowed (nI f) (nI t) = 0
  · rw [if_pos (hal.mpr ha), if_pos ha]
    rfl
  · rw [if_neg (fun z => ha (hal.mp z)), if_neg ha]
    by_cases hl : x.1 3 t = 0
    · rw [if_pos hl, if_pos hl]
    · rw [if_neg hl, if_neg hl]
      by_cases h6 : x.1 q 6 = 0
      · rw [if_pos h6, if_pos (Or.inl h6)]
        exact fin
      · by_cases h7 : x.1 q 6 = x.1 1 4
        · rw [if_neg h6, if_pos h7, if_pos (Or.inr h7)]
          exact fin
        · rw [if_neg h6, if_neg h7, if_neg (fun z => z.elim h6 h7)]
