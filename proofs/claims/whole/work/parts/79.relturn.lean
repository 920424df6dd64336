/-! A TURN: class against reference -/
def FXg1 (p : Int32) (x47 : xD) : xD :=
  if (x47.1 3 ((p).toNatClampNeg)) = 0 then
    x47
  else
    if (p) = (nI (1)) then
      if (x47.1 344 2) = 0 then
        let z73 := FX1_sendHeld (p) x47
        if (z73.1) = 0 then
          if (p) = 0 then
            let z76 := FX5_takeTurn  z73.2
            if (z76.1) = 0 then
              z76.2
            else
              let z79 := FX10_breakDriver  z76.2
              z79
          else if (p) = 1 then
            let z82 := FX2_takeTurn  z73.2
            z82
          else if (p) = 2 then
            let z85 := FX3_takeTurn  z73.2
            z85
          else if (p) = 3 then
            let z88 := FX8_takeTurn  z73.2
            z88
          else
            let z91 := FX9_takeTurn (p) z73.2
            z91
        else
          z73.2
      else
        x47
    else
      let z52 := FX1_sendHeld (p) x47
      if (z52.1) = 0 then
        if (p) = 0 then
          let z55 := FX5_takeTurn  z52.2
          if (z55.1) = 0 then
            z55.2
          else
            let z58 := FX10_breakDriver  z55.2
            z58
        else if (p) = 1 then
          let z61 := FX2_takeTurn  z52.2
          z61
        else if (p) = 2 then
          let z64 := FX3_takeTurn  z52.2
          z64
        else if (p) = 3 then
          let z67 := FX8_takeTurn  z52.2
          z67
        else
          let z70 := FX9_takeTurn (p) z52.2
          z70
      else
        z52.2
def DXg1 (p : Int32) (x47 : xD) : Prop :=
  (¬ (p) < 0) ∧
  (((p).toNatClampNeg) < 12) ∧
  (((x47.1 3 ((p).toNatClampNeg)) = 0) →
    True) ∧
  (¬ ((x47.1 3 ((p).toNatClampNeg)) = 0) →
    (((p) = (nI (1))) →
      (((x47.1 344 2) = 0) →
        (DX1_sendHeld (p) x47) ∧
        let z73 := FX1_sendHeld (p) x47
        (((z73.1) = 0) →
          ((p) = 0 →
            (DX5_takeTurn  z73.2) ∧
            let z76 := FX5_takeTurn  z73.2
            (((z76.1) = 0) →
              True) ∧
            (¬ ((z76.1) = 0) →
              (DX10_breakDriver  z76.2) ∧
              let z79 := FX10_breakDriver  z76.2
              True)) ∧
          ((p) = 1 →
            (DX2_takeTurn  z73.2) ∧
            let z82 := FX2_takeTurn  z73.2
            True) ∧
          ((p) = 2 →
            (DX3_takeTurn  z73.2) ∧
            let z85 := FX3_takeTurn  z73.2
            True) ∧
          ((p) = 3 →
            (DX8_takeTurn  z73.2) ∧
            let z88 := FX8_takeTurn  z73.2
            True) ∧
          ((∀ c ∈ ([(0, 120), (1, 141), (2, 155), (3, 169)] : List (Int32 × Nat)), ¬ (p) = c.1) →
            (DX9_takeTurn (p) z73.2) ∧
            let z91 := FX9_takeTurn (p) z73.2
            True)) ∧
        (¬ ((z73.1) = 0) →
          True)) ∧
      (¬ ((x47.1 344 2) = 0) →
        True)) ∧
    (¬ ((p) = (nI (1))) →
      (DX1_sendHeld (p) x47) ∧
      let z52 := FX1_sendHeld (p) x47
      (((z52.1) = 0) →
        ((p) = 0 →
          (DX5_takeTurn  z52.2) ∧
          let z55 := FX5_takeTurn  z52.2
          (((z55.1) = 0) →
            True) ∧
          (¬ ((z55.1) = 0) →
            (DX10_breakDriver  z55.2) ∧
            let z58 := FX10_breakDriver  z55.2
            True)) ∧
        ((p) = 1 →
          (DX2_takeTurn  z52.2) ∧
          let z61 := FX2_takeTurn  z52.2
          True) ∧
        ((p) = 2 →
          (DX3_takeTurn  z52.2) ∧
          let z64 := FX3_takeTurn  z52.2
          True) ∧
        ((p) = 3 →
          (DX8_takeTurn  z52.2) ∧
          let z67 := FX8_takeTurn  z52.2
          True) ∧
        ((∀ c ∈ ([(0, 120), (1, 141), (2, 155), (3, 169)] : List (Int32 × Nat)), ¬ (p) = c.1) →
          (DX9_takeTurn (p) z52.2) ∧
          let z70 := FX9_takeTurn (p) z52.2
          True)) ∧
      (¬ ((z52.1) = 0) →
        True)))
def xT (k : Nat) (x : xD) : xD := (ab_up (ab_up x.1 0 7 (nI ((k + 1) % 12))) 0 6 (x.1 0 6 + nI 1), x.2)
def mT (k : Nat) (m : mD) : mD := ab_up (ab_up m 0 48 (nI ((k + 1) % 12))) 0 47 (m 0 47 + nI 1)
theorem T_rel {x : xD} {m : mD} {k : Nat} (h : R3 x m) : R3 (xT k x) (mT k m) := by
  obtain ⟨r1, r2, b1, b2, b3, b4, b5, b6, b7, b8⟩ := h
  obtain ⟨c1, c2⟩ := RMH.rest (x' := xT k x) (m' := mT k m) r1 r2 rfl (fun q j hq _ => by show ab_up _ _ _ _ _ _ = _; rw [ab_up_ne hq, ab_up_ne hq]) (fun q j hq => by rw [mT, ab_up_ne (by omega), ab_up_ne (by omega)]) (fun j hj => by rw [mT, ab_up_nj (by omega), ab_up_nj (by omega)])
  have b1' : x.1 0 6 = m 0 47 ∧ x.1 0 7 = m 0 48 ∧ x.1 0 8 = m 0 30 := b1
  refine ⟨c1, c2, ?_, b2, b3, b4, b5, b6, b7, b8⟩
  show x.1 0 6 + nI 1 = m 0 47 + nI 1 ∧ nI ((k + 1) % 12) = nI ((k + 1) % 12) ∧ x.1 0 8 = m 0 30
  exact ⟨by rw [b1'.1], rfl, b1'.2.2⟩
theorem next_12 : ∀ k, k < 12 → (nI 12 ≤ nI k + nI 1 ↔ k = 11) := by decide +kernel
def xN (v : Int32) (x : xD) : xD := (ab_up (ab_up x.1 0 7 v) 0 6 ((ab_up x.1 0 7 v) 0 6 + nI 1), x.2)
theorem gt_F {x : xD} : FX10_giveTurn x = (if nI 12 ≤ x.1 0 7 + nI 1 then (if x.1 0 7 = 0 then FXg1 (x.1 0 7) (xKt (xN (nI 0) x)) else FXg1 (x.1 0 7) (xN (nI 0) x)) else (if x.1 0 7 = 0 then FXg1 (x.1 0 7) (xKt (xN (x.1 0 7 + nI 1) x)) else FXg1 (x.1 0 7) (xN (x.1 0 7 + nI 1) x))) := rfl
theorem gt_D {x : xD} (h : (nI 12 ≤ x.1 0 7 + nI 1 → (x.1 0 7 = 0 → DXg1 (x.1 0 7) (xKt (xN (nI 0) x))) ∧ (¬ x.1 0 7 = 0 → DXg1 (x.1 0 7) (xN (nI 0) x))) ∧ (¬ nI 12 ≤ x.1 0 7 + nI 1 → (x.1 0 7 = 0 → DXg1 (x.1 0 7) (xKt (xN (x.1 0 7 + nI 1) x))) ∧ (¬ x.1 0 7 = 0 → DXg1 (x.1 0 7) (xN (x.1 0 7 + nI 1) x)))) : DX10_giveTurn x := h
theorem xN_T {x : xD} {k : Nat} {v : Int32} (hv : v = nI ((k + 1) % 12)) : xN v x = xT k x := by
  have e6 : ab_up x.1 0 7 v 0 6 = x.1 0 6 := ab_up_nj (by decide)
  rw [xN, e6, hv]
  rfl
theorem FX10_giveTurn_eq {x : xD} {k : Nat} (hk : k < 12) (h7 : x.1 0 7 = nI k) : FX10_giveTurn x = FXg1 (nI k) (if k = 0 then xKt (xT k x) else xT k x) ∧ (DXg1 (nI k) (if k = 0 then xKt (xT k x) else xT k x) → DX10_giveTurn x) := by
  by_cases c : k = 11
  · subst c
    have c' : nI 12 ≤ x.1 0 7 + nI 1 := by rw [h7]; exact (next_12 11 (by decide)).mpr rfl
    have n0 : ¬ x.1 0 7 = 0 := by rw [h7]; decide
    have eN : xN (nI 0) x = xT 11 x := xN_T rfl
    rw [gt_F, if_pos c', if_neg n0, if_neg (show ¬ 11 = 0 by decide), eN, h7]
    refine ⟨rfl, fun hD => gt_D ⟨fun _ => ⟨fun z => absurd z n0, fun _ => ?_⟩, fun z => absurd c' z⟩⟩
    rw [eN, h7]
    exact hD
  · have c' : ¬ nI 12 ≤ x.1 0 7 + nI 1 := fun z => c ((next_12 k hk).mp (by rw [← h7]; exact z))
    have en : x.1 0 7 + nI 1 = nI ((k + 1) % 12) := by rw [h7, nI_inc, Nat.mod_eq_of_lt (by omega)]
    have eN : xN (x.1 0 7 + nI 1) x = xT k x := xN_T en
    rw [gt_F, if_neg c', eN]
    by_cases k0 : k = 0
    · have z0 : x.1 0 7 = 0 := by rw [h7, k0]; exact nI00
      rw [if_pos z0, if_pos k0, h7]
      refine ⟨rfl, fun hD => gt_D ⟨fun z => absurd z c', fun _ => ⟨fun _ => ?_, fun z => absurd z0 z⟩⟩⟩
      rw [eN, h7]
      exact hD
    · have n0 : ¬ x.1 0 7 = 0 := by rw [h7]; exact nI_ne0 (by omega) (by omega)
      rw [if_neg n0, if_neg k0, h7]
      refine ⟨rfl, fun hD => gt_D ⟨fun z => absurd z c', fun _ => ⟨fun z => absurd z n0, fun _ => ?_⟩⟩⟩
      rw [eN, h7]
      exact hD
/-- all that a turn wants of the reference's state -/
def iAll (m : mD) : Prop := ¬ m 0 34 = 0 ∧ (m 0 23 = 0 ∨ m 0 23 = 1) ∧ iDead m ∧ (m 0 33 = 0 ∨ m 0 33 = 1) ∧ iDri m ∧ iProc m ∧ iFls m ∧ iFiM m
theorem lives_s {m : mD} {k : Nat} (hk : k < 4) (h1 : ¬ k = 1) : Flives k m = nI 1 := by
  have hu : FisUser (nI k) = 0 := (isUser_z k (by omega)).mpr hk
  rw [Flives, if_neg h1, if_pos hu]
theorem g1_rel {x : xD} {m : mD} {k : Nat} (h : R3 x m) (hk : k < 12) (hA : iAll m) : DXg1 (nI k) (if k = 0 then xKt x else x) ∧ Dlives k m ∧ (¬ Flives k m = 0 → (k = 0 → Dkeeper m) ∧ (k = 1 → Ddriver m) ∧ (k = 2 → Dfiles m) ∧ (k = 3 → Dprocesses m) ∧ (4 ≤ k → DofUser k m)) ∧ R3 (FXg1 (nI k) (if k = 0 then xKt x else x)) (if Flives k m = 0 then (if k = 0 then ab_up m 0 31 (m 0 31 + nI 1) else m) else if k = 0 then Fkeeper m else if k = 1 then Fdriver m else if k = 2 then Ffiles m else if k = 3 then Fprocesses m else FofUser k m) := by
  obtain ⟨htl, hd, hde, ha, hdr, hpr, hfi, hfm⟩ := hA
  have hc : (nI k).toNatClampNeg = k := nI_clamp (by omega)
  have pk : ¬ nI k < 0 := nI_pos (by omega)
  have hl : x.1 3 k = Flives k m := h.1.2.2.1 k hk
  have dl : Dlives k m := Dlives_ok hk hd
  by_cases k0 : k = 0
  · subst k0
    obtain ⟨q1, q2, q3, q4, q5, q6⟩ := keeper_turn h.1 h.2.1 h.2.2 htl hd hde ha
    have l1 : Flives 0 m = nI 1 := lives_s (by decide) (by decide)
    have lx : ¬ (xKt x).1 3 0 = 0 := by
      show ¬ ab_up x.1 343 0 (x.1 343 0 + nI 1) 3 0 = 0
      rw [ab_up_ne (by decide), hl, l1]; decide
    have n1 : ¬ nI 0 = nI 1 := by decide
    have ln : ¬ Flives 0 m = 0 := by rw [l1]; decide
    rw [if_pos rfl, if_neg ln, if_pos rfl]
    have ex : FXg1 (nI 0) (xKt x) = FXkeep x := by
      rw [FXg1, hc, if_neg lx, if_neg n1, FXkeep]
      rfl
    rw [ex]
    refine ⟨?_, dl, fun _ => ⟨fun _ => q3, fun z => absurd z (by decide), fun z => absurd z (by decide), fun z => absurd z (by decide), fun z => absurd z (by decide)⟩, q4, q5, q6⟩
    rw [DXg1, hc]
    exact ⟨pk, by decide, fun z => absurd z lx, fun _ => ⟨fun z => absurd z n1, fun _ => ⟨q1, fun z => ⟨fun _ => ⟨q2 z, fun _ => trivial, fun _ => ⟨DX10_breakDriver_ok, trivial⟩⟩, fun y => absurd y (by decide), fun y => absurd y (by decide), fun y => absurd y (by decide), fun y => absurd nI00 (y (0, 120) (by decide))⟩, fun _ => trivial⟩⟩⟩
  · rw [if_neg k0, if_neg k0, if_neg k0]
    by_cases ln : Flives k m = 0
    · have lx : x.1 3 k = 0 := hl.trans ln
      rw [if_pos ln, FXg1, DXg1, hc, if_pos lx]
      exact ⟨⟨pk, hk, fun _ => trivial, fun z => absurd lx z⟩, dl, fun z => absurd ln z, h⟩
    · have lx : ¬ x.1 3 k = 0 := by rw [hl]; exact ln
      rw [if_neg ln]
      have m0 : ¬ nI k = 0 := nI_ne0 (by omega) (by omega)
      by_cases k1 : k = 1
      · subst k1
        obtain ⟨q1, q2, q3, q4⟩ := driver_turn h.1 h.2.1 h.2.2 htl hd hdr
        have ex : FXg1 (nI 1) x = FXdri x := by
          rw [FXg1, hc, if_neg lx, if_pos rfl, FXdri]
          rfl
        rw [ex, if_pos rfl]
        refine ⟨?_, dl, fun _ => ⟨fun z => absurd z (by decide), fun _ => q3, fun z => absurd z (by decide), fun z => absurd z (by decide), fun z => absurd z (by decide)⟩, q4⟩
        rw [DXg1, hc]
        exact ⟨pk, by decide, fun z => absurd z lx, fun _ => ⟨fun _ => ⟨fun _ => ⟨q1, fun z => ⟨fun y => absurd y (by decide), fun _ => ⟨q2 z, trivial⟩, fun y => absurd y (by decide), fun y => absurd y (by decide), fun y => absurd rfl (y (1, 141) (by decide))⟩, fun _ => trivial⟩, fun _ => trivial⟩, fun z => absurd rfl z⟩⟩
      · have m1 : ¬ nI k = nI 1 := fun z => k1 ((nI_eq (by omega) (by decide)).mp z)
        rw [if_neg k1]
        by_cases k2 : k = 2
        · subst k2
          obtain ⟨q1, q2, q3, q4⟩ := files_turn h htl hd hfi hfm
          have ex : FXg1 (nI 2) x = FXfil x := by
            rw [FXg1, hc, if_neg lx, if_neg m1, FXfil]
            rfl
          rw [ex, if_pos rfl]
          refine ⟨?_, dl, fun _ => ⟨fun z => absurd z (by decide), fun z => absurd z (by decide), fun _ => q3, fun z => absurd z (by decide), fun z => absurd z (by decide)⟩, q4⟩
          rw [DXg1, hc]
          exact ⟨pk, by decide, fun z => absurd z lx, fun _ => ⟨fun z => absurd z m1, fun _ => ⟨q1, fun z => ⟨fun y => absurd y (by decide), fun y => absurd y (by decide), fun _ => ⟨q2 z, trivial⟩, fun y => absurd y (by decide), fun y => absurd rfl (y (2, 155) (by decide))⟩, fun _ => trivial⟩⟩⟩
        · rw [if_neg k2]
          by_cases k3 : k = 3
          · subst k3
            obtain ⟨q1, q2, q3, q4⟩ := processes_turn h htl hd hpr
            have ex : FXg1 (nI 3) x = FXpro x := by
              rw [FXg1, hc, if_neg lx, if_neg m1, FXpro]
              rfl
            rw [ex, if_pos rfl]
            refine ⟨?_, dl, fun _ => ⟨fun z => absurd z (by decide), fun z => absurd z (by decide), fun z => absurd z (by decide), fun _ => q3, fun z => absurd z (by decide)⟩, q4⟩
            rw [DXg1, hc]
            exact ⟨pk, by decide, fun z => absurd z lx, fun _ => ⟨fun z => absurd z m1, fun _ => ⟨q1, fun z => ⟨fun y => absurd y (by decide), fun y => absurd y (by decide), fun y => absurd y (by decide), fun _ => ⟨q2 z, trivial⟩, fun y => absurd rfl (y (3, 169) (by decide))⟩, fun _ => trivial⟩⟩⟩
          · rw [if_neg k3]
            have k4 : 4 ≤ k := by omega
            obtain ⟨u1, u2, u3, u4, u5⟩ := user_turn h.1 h.2.1 h.2.2 hk k4
            obtain ⟨h1, h2, hcs⟩ := held_rel (p := k) h.1 h.2.1 hk hd htl
            have c2 : FX1_sendHeld (nI k) x = (nI 0, x) := by
              rcases hcs with z | ⟨x', m', z, -⟩
              · exact z.2.1
              · exact absurd (hpr.usr k hk k4) z
            have n2 : ¬ nI k = 2 := fun z => k2 ((nI_eq (by omega) (by decide)).mp z)
            have n3 : ¬ nI k = 3 := fun z => k3 ((nI_eq (by omega) (by decide)).mp z)
            have n1 : ¬ nI k = 1 := m1
            have ex : FXg1 (nI k) x = FX9_takeTurn (nI k) x := by
              rw [FXg1, hc, if_neg lx, if_neg m1, c2]
              dsimp only
              rw [if_pos nI00, if_neg m0, if_neg n1, if_neg n2, if_neg n3]
            rw [ex]
            refine ⟨?_, dl, fun _ => ⟨fun z => absurd z k0, fun z => absurd z k1, fun z => absurd z k2, fun z => absurd z k3, fun _ => u2⟩, u3, u4, u5⟩
            rw [DXg1, hc, c2]
            exact ⟨pk, hk, fun z => absurd z lx, fun _ => ⟨fun z => absurd z m1, fun _ => ⟨h1, fun _ => ⟨fun y => absurd y m0, fun y => absurd y n1, fun y => absurd y n2, fun y => absurd y n3, fun _ => ⟨u1, trivial⟩⟩, fun _ => trivial⟩⟩⟩
theorem turn_rel {x : xD} {m : mD} {k : Nat} (h : R3 x m) (hk : k < 12) (h48 : m 0 48 = nI k) (hA : iAll (mT k m)) : DX10_giveTurn x ∧ Dturn m ∧ R3 (FX10_giveTurn x) (Fturn m) := by
  have hc : (nI k).toNatClampNeg = k := nI_clamp (by omega)
  have h7 : x.1 0 7 = nI k := (show x.1 0 7 = m 0 48 from h.2.2.1.2.1).trans h48
  obtain ⟨g1, g2⟩ := FX10_giveTurn_eq hk h7
  obtain ⟨q1, q2, q3, q4⟩ := g1_rel (T_rel (k := k) h) hk hA
  have e47 : ab_up m 0 48 (nI ((k + 1) % 12)) 0 47 = m 0 47 := ab_up_nj (by decide)
  have emT : ab_up (ab_up m 0 48 (nI ((k + 1) % 12))) 0 47 (m 0 47 + nI 1) = mT k m := rfl
  have p48 : ¬ m 0 48 < 0 := by rw [h48]; exact nI_pos (by omega)
  rw [g1]
  refine ⟨g2 q1, ?_, ?_⟩
  · rw [Dturn, h48, hc]
    dsimp only
    rw [e47, emT]
    rw [h48] at p48
    exact ⟨p48, p48, by omega, q2, fun _ => trivial, fun z => ⟨by omega, fun y => ⟨(q3 z).1 y, trivial⟩, fun _ => ⟨by omega, fun y => ⟨(q3 z).2.1 y, trivial⟩, fun _ => ⟨by omega, fun y => ⟨(q3 z).2.2.1 y, trivial⟩, fun _ => ⟨by omega, fun y => ⟨(q3 z).2.2.2.1 y, trivial⟩, fun _ => ⟨(q3 z).2.2.2.2 (by omega), trivial⟩⟩⟩⟩⟩⟩
  · rw [Fturn, h48, hc]
    dsimp only
    rw [e47, emT]
    by_cases ln : Flives k (mT k m) = 0
    · rw [if_pos ln] at q4 ⊢
      have k0 : ¬ k = 0 := fun z => by
        subst z
        rw [lives_s (by decide) (by decide)] at ln
        exact absurd ln (by decide)
      rw [if_neg k0, if_neg k0] at q4
      rw [if_neg k0]
      exact q4
    · rw [if_neg ln] at q4 ⊢
      exact q4
