/-! PROCESSES, V: done -/
def Flc (s : Int32) : Nat → Nat → mD → mD
  | 0, _, m => m
  | n + 1, k, m => if m 11 k = s then Flc s n (k + 1) (if m 7 k = nI 2 then ab_up (ab_up m 11 k (-1)) 7 k (nI 0) else ab_up m 11 k (-1)) else Flc s n (k + 1) m
theorem Flc_o {s : Int32} : ∀ (n k : Nat) (m : mD) (a j : Nat), ¬ a = 11 → ¬ a = 7 → Flc s n k m a j = m a j := by
  intro n
  induction n with
  | zero => intros; rfl
  | succ n ih =>
    intro k m a j h1 h2
    rw [Flc]
    by_cases c : m 11 k = s
    · rw [if_pos c, ih _ _ _ _ h1 h2]
      by_cases c2 : m 7 k = nI 2
      · rw [if_pos c2, ab_up_ne h2, ab_up_ne h1]
      · rw [if_neg c2, ab_up_ne h1]
    · rw [if_neg c, ih _ _ _ _ h1 h2]
theorem Flc_p {s : Int32} (hs : ¬ s = -1) : ∀ (n k : Nat) (m : mD) (j : Nat), (Flc s n k m 11 j = m 11 j ∨ (m 11 j = s ∧ Flc s n k m 11 j = -1)) ∧ (Flc s n k m 7 j = m 7 j ∨ (m 7 j = nI 2 ∧ m 11 j = s ∧ Flc s n k m 7 j = nI 0 ∧ Flc s n k m 11 j = -1)) := by
  intro n
  induction n with
  | zero => intro k m j; exact ⟨Or.inl rfl, Or.inl rfl⟩
  | succ n ih =>
    intro k m j
    rw [Flc]
    by_cases c : m 11 k = s
    · rw [if_pos c]
      by_cases c2 : m 7 k = nI 2
      · rw [if_pos c2]
        obtain ⟨i1, i2⟩ := ih (k + 1) (ab_up (ab_up m 11 k (-1)) 7 k (nI 0)) j
        by_cases e : j = k
        · subst e
          have e1 : ab_up (ab_up m 11 j (-1)) 7 j (nI 0) 11 j = -1 := by rw [ab_up_ne (by decide), ab_up_eq]
          have e2 : ab_up (ab_up m 11 j (-1)) 7 j (nI 0) 7 j = nI 0 := ab_up_eq
          rw [e1] at i1 i2
          rw [e2] at i2
          have j1 : Flc s n (j + 1) (ab_up (ab_up m 11 j (-1)) 7 j (nI 0)) 11 j = -1 := i1.elim id (fun z => z.2)
          refine ⟨Or.inr ⟨c, j1⟩, Or.inr ⟨c2, c, ?_, j1⟩⟩
          rcases i2 with z | z
          · exact z
          · exact absurd z.1 (by decide)
        · have e1 : ab_up (ab_up m 11 k (-1)) 7 k (nI 0) 11 j = m 11 j := by rw [ab_up_ne (by decide), ab_up_nj e]
          have e2 : ab_up (ab_up m 11 k (-1)) 7 k (nI 0) 7 j = m 7 j := by rw [ab_up_nj e, ab_up_ne (by decide)]
          rw [e1] at i1 i2
          rw [e2] at i2
          exact ⟨i1, i2⟩
      · rw [if_neg c2]
        obtain ⟨i1, i2⟩ := ih (k + 1) (ab_up m 11 k (-1)) j
        have e2 : ab_up m 11 k (-1) 7 j = m 7 j := ab_up_ne (by decide)
        by_cases e : j = k
        · subst e
          rw [ab_up_eq] at i1 i2
          rw [e2] at i2
          have j1 : Flc s n (j + 1) (ab_up m 11 j (-1)) 11 j = -1 := i1.elim id (fun z => z.2)
          refine ⟨Or.inr ⟨c, j1⟩, ?_⟩
          rcases i2 with z | z
          · exact Or.inl z
          · exact absurd z.1 c2
        · have e3 : ab_up m 11 k (-1) 11 j = m 11 j := ab_up_nj e
          rw [e3] at i1 i2
          rw [e2] at i2
          exact ⟨i1, i2⟩
    · rw [if_neg c]
      exact ih (k + 1) m j
/-- a child left by its parent, ended or not -/
theorem leave1_rel {x : xD} {m : mD} {k : Nat} (h : R3 x m) (hk : k < 12) (h4 : 4 ≤ k) : R3 (ab_up (ab_up x.1 358 k (-1)) 360 k (nI 0), x.2) (if m 7 k = nI 2 then ab_up (ab_up m 11 k (-1)) 7 k (nI 0) else ab_up m 11 k (-1)) := by
  have hen := ended_of h hk h4
  by_cases c2 : m 7 k = nI 2
  · rw [if_pos c2]
    have F := free_rel h hk h4 (by rw [c2]; decide)
    have e1 : ab_up (ab_up x.1 360 k (nI 0)) 358 k (-1) = ab_up (ab_up x.1 358 k (-1)) 360 k (nI 0) := by
      funext a j
      by_cases a1 : a = 360
      · subst a1
        rw [ab_up_ne (by decide)]
        by_cases e : j = k
        · subst e; rw [ab_up_eq, ab_up_eq]
        · rw [ab_up_nj e, ab_up_nj e, ab_up_ne (by decide)]
      · rw [ab_up_ne (q := 360) a1]
        by_cases a2 : a = 358 ∧ j = k
        · obtain ⟨rfl, rfl⟩ := a2; rw [ab_up_eq, ab_up_eq]
        · rw [ab_up_na a2, ab_up_na a2, ab_up_ne a1]
    have e2 : ab_up (ab_up m 7 k (nI 0)) 11 k (-1) = ab_up (ab_up m 11 k (-1)) 7 k (nI 0) := by
      funext a j
      by_cases a1 : a = 7
      · subst a1
        rw [ab_up_ne (by decide)]
        by_cases e : j = k
        · subst e; rw [ab_up_eq, ab_up_eq]
        · rw [ab_up_nj e, ab_up_nj e, ab_up_ne (by decide)]
      · rw [ab_up_ne (q := 7) a1]
        by_cases a2 : a = 11 ∧ j = k
        · obtain ⟨rfl, rfl⟩ := a2; rw [ab_up_eq, ab_up_eq]
        · rw [ab_up_na a2, ab_up_na a2, ab_up_ne a1]
    rw [← e1, ← e2]
    exact F
  · rw [if_neg c2]
    have c2' : ¬ m 7 k = 2 := c2
    rw [if_neg c2'] at hen
    obtain ⟨r1, r2, b1, b2, b3, b4, b5, b6, b7, b8⟩ := h
    obtain ⟨c1, c3⟩ := RMH.rest (x' := (ab_up (ab_up x.1 358 k (-1)) 360 k (nI 0), x.2)) (m' := ab_up m 11 k (-1)) r1 r2 rfl (fun q j _ hq => by show ab_up _ _ _ _ _ _ = _; rw [ab_up_ne (by omega), ab_up_ne (by omega)]) (fun q j hq => ab_up_ne (by omega)) (fun j hj => ab_up_ne (by omega))
    refine ⟨c1, c3, b1, b2, b3, b4, b5, b6, ?_, b8⟩
    have b7' : (∀ u, u < 12 → 4 ≤ u → x.1 358 u = m 11 u ∧ x.1 359 u = m 12 u ∧ x.1 360 u = (if m 7 u = 2 then 1 else 0) ∧ x.1 361 u = m 13 u) ∧ x.1 357 4 = m 0 43 ∧ (m 0 43 = 1 → x.1 357 5 = (if m 0 44 = 8 then 1 else 0) ∧ x.1 357 6 = m 0 46 ∧ x.1 357 7 = (if m 0 44 = 9 then -1 else m 0 45)) := b7
    show (∀ u, u < 12 → 4 ≤ u → ab_up x.1 358 k (-1) 358 u = ab_up m 11 k (-1) 11 u ∧ x.1 359 u = m 12 u ∧ ab_up (ab_up x.1 358 k (-1)) 360 k (nI 0) 360 u = (if m 7 u = 2 then 1 else 0) ∧ x.1 361 u = m 13 u) ∧ x.1 357 4 = m 0 43 ∧ (m 0 43 = 1 → x.1 357 5 = (if m 0 44 = 8 then 1 else 0) ∧ x.1 357 6 = m 0 46 ∧ x.1 357 7 = (if m 0 44 = 9 then -1 else m 0 45))
    refine ⟨fun u hu hu4 => ?_, b7'.2⟩
    obtain ⟨q1, q2, q3, q4⟩ := b7'.1 u hu hu4
    by_cases e : u = k
    · subst e
      rw [ab_up_eq, ab_up_eq, ab_up_eq, if_neg c2']
      exact ⟨rfl, q2, nI00, q4⟩
    · have l3 : ab_up (ab_up x.1 358 k (-1)) 360 k (nI 0) 360 u = x.1 360 u := by rw [ab_up_nj e, ab_up_ne (by decide)]
      rw [ab_up_nj e, ab_up_nj e, l3]
      exact ⟨q1, q2, q3, q4⟩
theorem leave_l {s : Int32} : ∀ (n k F : Nat) (x : xD) (m : mD), R3 x m → k + n = 12 → 4 ≤ k → n < F → DX8_leaveChildren_2 F s k x ∧ R3 (FX8_leaveChildren_2 F s k x) (Flc s n k m) ∧ ∀ j, (FX8_leaveChildren_2 F s k x).1 357 j = x.1 357 j := by
  intro n
  induction n with
  | zero =>
    intro k F x m h hk _ hF
    obtain ⟨F, rfl⟩ : ∃ n', F = n' + 1 := ⟨F - 1, by omega⟩
    have e : 12 ≤ k := by omega
    rw [FX8_leaveChildren_2, DX8_leaveChildren_2, if_pos e, Flc]
    exact ⟨⟨by omega, fun _ => trivial, fun z => absurd e z⟩, h, fun _ => rfl⟩
  | succ n ih =>
    intro k F x m h hk h4 hF
    obtain ⟨F, rfl⟩ : ∃ n', F = n' + 1 := ⟨F - 1, by omega⟩
    have e : ¬ 12 ≤ k := by omega
    have hpa := parent_of h (show k < 12 by omega) h4
    rw [FX8_leaveChildren_2, DX8_leaveChildren_2, if_neg e, Flc, hpa]
    by_cases c : m 11 k = s
    · have L := leave1_rel h (show k < 12 by omega) h4
      obtain ⟨i1, i2, i3⟩ := ih (k + 1) F _ _ L (by omega) (by omega) (by omega)
      rw [if_pos c, if_pos c]
      refine ⟨⟨by omega, fun z => absurd z e, fun _ => ⟨by omega, fun _ => ⟨by omega, by omega, i1⟩, fun z => absurd c z⟩⟩, i2, fun j => (i3 j).trans ?_⟩
      show ab_up (ab_up x.1 358 k (-1)) 360 k (nI 0) 357 j = x.1 357 j
      rw [ab_up_ne (by decide), ab_up_ne (by decide)]
    · obtain ⟨i1, i2, i3⟩ := ih (k + 1) F x m h (by omega) (by omega) (by omega)
      rw [if_neg c, if_neg c]
      exact ⟨⟨by omega, fun z => absurd z e, fun _ => ⟨by omega, fun z => absurd z c, fun _ => i1⟩⟩, i2, i3⟩
/-- the reference's tail -/
def FdE (a1 : Int32) (m : mD) : mD :=
      if 0 ≤ (m 11 ((a1).toNatClampNeg)) then
        if (m 13 ((m 11 ((a1).toNatClampNeg)).toNatClampNeg)) = 0 then
          if (m 0 44) = (nI (11)) then
            let z21 := Ftells 3 ((m 0 45).toNatClampNeg) (nI (0)) m
            z21
          else
            m
        else
          let m24 := ab_up m 13 ((m 11 ((a1).toNatClampNeg)).toNatClampNeg) (nI (0))
          let z27 := Ffreed ((a1).toNatClampNeg) m24
          let z30 := Ftells 3 ((m 11 ((a1).toNatClampNeg)).toNatClampNeg) (z27.1) z27.2
          if (z30 0 44) = (nI (11)) then
            let z33 := Ftells 3 ((z30 0 45).toNatClampNeg) (nI (0)) z30
            z33
          else
            z30
      else
        let m36 := ab_up m 7 ((a1).toNatClampNeg) (nI (0))
        if (m36 0 44) = (nI (11)) then
          let z39 := Ftells 3 ((m36 0 45).toNatClampNeg) (nI (0)) m36
          z39
        else
          m36
def DdE (a1 : Int32) (m : mD) : Prop :=
      (¬ (a1) < 0) ∧
      (((a1).toNatClampNeg) < 12) ∧
      ((0 ≤ (m 11 ((a1).toNatClampNeg))) →
        (¬ (m 11 ((a1).toNatClampNeg)) < 0) ∧
        (((m 11 ((a1).toNatClampNeg)).toNatClampNeg) < 12) ∧
        (((m 13 ((m 11 ((a1).toNatClampNeg)).toNatClampNeg)) = 0) →
          (((m 0 44) = (nI (11))) →
            (¬ (m 0 45) < 0) ∧
            (Dtells 3 ((m 0 45).toNatClampNeg) (nI (0)) m) ∧
            let z21 := Ftells 3 ((m 0 45).toNatClampNeg) (nI (0)) m
            True) ∧
          (¬ ((m 0 44) = (nI (11))) →
            True)) ∧
        (¬ ((m 13 ((m 11 ((a1).toNatClampNeg)).toNatClampNeg)) = 0) →
          (¬ (m 11 ((a1).toNatClampNeg)) < 0) ∧
          (((m 11 ((a1).toNatClampNeg)).toNatClampNeg) < 12) ∧
          let m24 := ab_up m 13 ((m 11 ((a1).toNatClampNeg)).toNatClampNeg) (nI (0))
          (¬ (a1) < 0) ∧
          (Dfreed ((a1).toNatClampNeg) m24) ∧
          let z27 := Ffreed ((a1).toNatClampNeg) m24
          (¬ (m 11 ((a1).toNatClampNeg)) < 0) ∧
          (Dtells 3 ((m 11 ((a1).toNatClampNeg)).toNatClampNeg) (z27.1) z27.2) ∧
          let z30 := Ftells 3 ((m 11 ((a1).toNatClampNeg)).toNatClampNeg) (z27.1) z27.2
          (((z30 0 44) = (nI (11))) →
            (¬ (z30 0 45) < 0) ∧
            (Dtells 3 ((z30 0 45).toNatClampNeg) (nI (0)) z30) ∧
            let z33 := Ftells 3 ((z30 0 45).toNatClampNeg) (nI (0)) z30
            True) ∧
          (¬ ((z30 0 44) = (nI (11))) →
            True))) ∧
      (¬ (0 ≤ (m 11 ((a1).toNatClampNeg))) →
        (¬ (a1) < 0) ∧
        (((a1).toNatClampNeg) < 12) ∧
        let m36 := ab_up m 7 ((a1).toNatClampNeg) (nI (0))
        (((m36 0 44) = (nI (11))) →
          (¬ (m36 0 45) < 0) ∧
          (Dtells 3 ((m36 0 45).toNatClampNeg) (nI (0)) m36) ∧
          let z39 := Ftells 3 ((m36 0 45).toNatClampNeg) (nI (0)) m36
          True) ∧
        (¬ ((m36 0 44) = (nI (11))) →
          True))
theorem Fdone_56_l {s : Int32} : ∀ (n k F : Nat) (m : mD), k + n = 12 → 4 ≤ k → n < F → Fdone_56 F s k m = FdE s (Flc s n k m) ∧ (DdE s (Flc s n k m) → Ddone_56 F s k m) := by
  intro n
  induction n with
  | zero =>
    intro k F m hk _ hF
    obtain ⟨F, rfl⟩ : ∃ n', F = n' + 1 := ⟨F - 1, by omega⟩
    have e : 12 ≤ k := by omega
    rw [Fdone_56, Ddone_56, if_pos e, Flc, FdE, DdE]
    exact ⟨rfl, fun hD => ⟨by omega, fun _ => hD, fun z => absurd e z⟩⟩
  | succ n ih =>
    intro k F m hk h4 hF
    obtain ⟨F, rfl⟩ : ∃ n', F = n' + 1 := ⟨F - 1, by omega⟩
    have e : ¬ 12 ≤ k := by omega
    rw [Fdone_56, Ddone_56, if_neg e, Flc]
    by_cases c : m 11 k = s
    · have e7 : ab_up m 11 k (-1) 7 k = m 7 k := ab_up_ne (by decide)
      rw [if_pos c, if_pos c]
      dsimp only
      rw [e7]
      by_cases c2 : m 7 k = nI 2
      · rw [if_pos c2, if_pos c2]
        obtain ⟨i1, i2⟩ := ih (k + 1) F (ab_up (ab_up m 11 k (-1)) 7 k (nI 0)) (by omega) (by omega) (by omega)
        exact ⟨i1, fun hD => ⟨by omega, fun z => absurd z e, fun _ => ⟨by omega, fun _ => ⟨by omega, by omega, fun _ => ⟨by omega, i2 hD⟩, fun z => absurd c2 z⟩, fun z => absurd c z⟩⟩⟩
      · have es : ab_up (ab_up m 11 k (-1)) 7 k (m 7 k) = ab_up m 11 k (-1) := ab_up_self e7
        rw [if_neg c2, if_neg c2, es]
        obtain ⟨i1, i2⟩ := ih (k + 1) F (ab_up m 11 k (-1)) (by omega) (by omega) (by omega)
        exact ⟨i1, fun hD => ⟨by omega, fun z => absurd z e, fun _ => ⟨by omega, fun _ => ⟨by omega, by omega, fun z => absurd z c2, fun _ => ⟨by omega, by omega, i2 hD⟩⟩, fun z => absurd c z⟩⟩⟩
    · obtain ⟨i1, i2⟩ := ih (k + 1) F m (by omega) (by omega) (by omega)
      rw [if_neg c, if_neg c]
      exact ⟨i1, fun hD => ⟨by omega, fun z => absurd z e, fun _ => ⟨by omega, fun z => absurd z c, fun _ => i2 hD⟩⟩⟩
