/-! PROCESSES, VIII: its turn -/
def Fpgo (z7 : mD) : mD :=
  if (z7 6 1) = 8 then
    let z10 := Fforks ((z7 6 0).toNatClampNeg) z7
    z10
  else if (z7 6 1) = 9 then
    let z14 := Fends (z7 6 0) ((z7 6 0).toNatClampNeg) (FfloorMod_7cf53 (z7 6 2) (nI (256))) (nI (9)) z7
    z14
  else if (z7 6 1) = 10 then
    let z17 := FwaitsFor ((z7 6 0).toNatClampNeg) z7
    z17
  else if (z7 6 1) = 11 then
    if (FisUser (z7 6 2)) = 0 then
      let z20 := Ftells 3 ((z7 6 0).toNatClampNeg) (-11) z7
      z20
    else
      if (z7 11 ((z7 6 2).toNatClampNeg)) = (z7 6 0) then
        if (z7 7 ((z7 6 2).toNatClampNeg)) = (nI (1)) then
          let z33 := Fends (z7 6 0) ((z7 6 2).toNatClampNeg) (nI (255)) (nI (11)) z7
          z33
        else
          let z30 := Ftells 3 ((z7 6 0).toNatClampNeg) (-11) z7
          z30
      else
        let z25 := Ftells 3 ((z7 6 0).toNatClampNeg) (-11) z7
        z25
  else if (z7 6 1) = 12 then
    if 0 ≤ (z7 11 ((z7 6 0).toNatClampNeg)) then
      let z40 := Ftells 3 ((z7 6 0).toNatClampNeg) (z7 11 ((z7 6 0).toNatClampNeg)) z7
      z40
    else
      let z43 := Ftells 3 ((z7 6 0).toNatClampNeg) (nI (0)) z7
      z43
  else if (z7 6 1) = 32 then
    if (z7 0 43) = 0 then
      z7
    else
      let z45 := Fdone  z7
      z45
  else
    z7
def Dpgo (z7 : mD) : Prop :=
  ((z7 6 1) = 8 →
    (¬ (z7 6 0) < 0) ∧
    (Dforks ((z7 6 0).toNatClampNeg) z7) ∧
    let z10 := Fforks ((z7 6 0).toNatClampNeg) z7
    True) ∧
  ((z7 6 1) = 9 →
    (DfloorMod_7cf53 (z7 6 2) (nI (256)) z7) ∧
    (¬ (z7 6 0) < 0) ∧
    (Dends (z7 6 0) ((z7 6 0).toNatClampNeg) (FfloorMod_7cf53 (z7 6 2) (nI (256))) (nI (9)) z7) ∧
    let z14 := Fends (z7 6 0) ((z7 6 0).toNatClampNeg) (FfloorMod_7cf53 (z7 6 2) (nI (256))) (nI (9)) z7
    True) ∧
  ((z7 6 1) = 10 →
    (¬ (z7 6 0) < 0) ∧
    (DwaitsFor ((z7 6 0).toNatClampNeg) z7) ∧
    let z17 := FwaitsFor ((z7 6 0).toNatClampNeg) z7
    True) ∧
  ((z7 6 1) = 11 →
    (((FisUser (z7 6 2)) = 0) →
      (¬ (z7 6 0) < 0) ∧
      (Dtells 3 ((z7 6 0).toNatClampNeg) (-11) z7) ∧
      let z20 := Ftells 3 ((z7 6 0).toNatClampNeg) (-11) z7
      True) ∧
    (¬ ((FisUser (z7 6 2)) = 0) →
      (¬ (z7 6 2) < 0) ∧
      (((z7 6 2).toNatClampNeg) < 12) ∧
      (((z7 11 ((z7 6 2).toNatClampNeg)) = (z7 6 0)) →
        (¬ (z7 6 2) < 0) ∧
        (((z7 6 2).toNatClampNeg) < 12) ∧
        (((z7 7 ((z7 6 2).toNatClampNeg)) = (nI (1))) →
          (¬ (z7 6 2) < 0) ∧
          (Dends (z7 6 0) ((z7 6 2).toNatClampNeg) (nI (255)) (nI (11)) z7) ∧
          let z33 := Fends (z7 6 0) ((z7 6 2).toNatClampNeg) (nI (255)) (nI (11)) z7
          True) ∧
        (¬ ((z7 7 ((z7 6 2).toNatClampNeg)) = (nI (1))) →
          (¬ (z7 6 0) < 0) ∧
          (Dtells 3 ((z7 6 0).toNatClampNeg) (-11) z7) ∧
          let z30 := Ftells 3 ((z7 6 0).toNatClampNeg) (-11) z7
          True)) ∧
      (¬ ((z7 11 ((z7 6 2).toNatClampNeg)) = (z7 6 0)) →
        (¬ (z7 6 0) < 0) ∧
        (Dtells 3 ((z7 6 0).toNatClampNeg) (-11) z7) ∧
        let z25 := Ftells 3 ((z7 6 0).toNatClampNeg) (-11) z7
        True))) ∧
  ((z7 6 1) = 12 →
    (¬ (z7 6 0) < 0) ∧
    (((z7 6 0).toNatClampNeg) < 12) ∧
    ((0 ≤ (z7 11 ((z7 6 0).toNatClampNeg))) →
      (¬ (z7 6 0) < 0) ∧
      (((z7 6 0).toNatClampNeg) < 12) ∧
      (¬ (z7 6 0) < 0) ∧
      (Dtells 3 ((z7 6 0).toNatClampNeg) (z7 11 ((z7 6 0).toNatClampNeg)) z7) ∧
      let z40 := Ftells 3 ((z7 6 0).toNatClampNeg) (z7 11 ((z7 6 0).toNatClampNeg)) z7
      True) ∧
    (¬ (0 ≤ (z7 11 ((z7 6 0).toNatClampNeg))) →
      (¬ (z7 6 0) < 0) ∧
      (Dtells 3 ((z7 6 0).toNatClampNeg) (nI (0)) z7) ∧
      let z43 := Ftells 3 ((z7 6 0).toNatClampNeg) (nI (0)) z7
      True)) ∧
  ((z7 6 1) = 32 →
    (((z7 0 43) = 0) →
      True) ∧
    (¬ ((z7 0 43) = 0) →
      (Ddone  z7) ∧
      let z45 := Fdone  z7
      True)) ∧
  ((∀ c ∈ ([(8, 152), (9, 158), (10, 174), (11, 180), (12, 230), (32, 256)] : List (Int32 × Nat)), ¬ (z7 6 1) = c.1) →
    True)
def FXpgo (w4 : Nat) (z3 : Option Nat × xD) : xD :=
      if (FX10_isPart (z3.2.1 w4 1)) = 0 then
        z3.2
      else
        if (z3.2.1 w4 2) = 8 then
          let z8 := FX8_fork (z3.2.1 w4 1) z3.2
          z8
        else if (z3.2.1 w4 2) = 9 then
          let z13 := FX8_end (z3.2.1 w4 1) (FXJ9_floorMod_7cf53 (z3.2.1 w4 3) (nI (256))) (-1) z3.2
          z13
        else if (z3.2.1 w4 2) = 10 then
          let z16 := FX8_await (z3.2.1 w4 1) z3.2
          z16
        else if (z3.2.1 w4 2) = 11 then
          if (FX10_isUser (z3.2.1 w4 3)) = 0 then
            let z19 := FX1_send (nI (3)) (z3.2.1 w4 1) (nI (50)) (-11) (nI (0)) z3.2
            z19
          else
            if (z3.2.1 3 ((z3.2.1 w4 3).toNatClampNeg)) = 0 then
              let z24 := FX1_send (nI (3)) (z3.2.1 w4 1) (nI (50)) (-11) (nI (0)) z3.2
              z24
            else
              if (z3.2.1 358 ((z3.2.1 w4 3).toNatClampNeg)) = (z3.2.1 w4 1) then
                let z32 := FX8_end (z3.2.1 w4 3) (nI (255)) (z3.2.1 w4 1) z3.2
                z32
              else
                let z29 := FX1_send (nI (3)) (z3.2.1 w4 1) (nI (50)) (-11) (nI (0)) z3.2
                z29
        else if (z3.2.1 w4 2) = 12 then
          if (z3.2.1 358 ((z3.2.1 w4 1).toNatClampNeg)) = (-1) then
            let z42 := FX1_send (nI (3)) (z3.2.1 w4 1) (nI (50)) (nI (0)) (nI (0)) z3.2
            z42
          else
            let z39 := FX1_send (nI (3)) (z3.2.1 w4 1) (nI (50)) (z3.2.1 358 ((z3.2.1 w4 1).toNatClampNeg)) (nI (0)) z3.2
            z39
        else if (z3.2.1 w4 2) = 32 then
          let z45 := FX8_goOn  z3.2
          z45
        else
          z3.2
def DXpgo (w4 : Nat) (z3 : Option Nat × xD) : Prop :=
      (isX w4 6) ∧
      (((FX10_isPart (z3.2.1 w4 1)) = 0) →
        True) ∧
      (¬ ((FX10_isPart (z3.2.1 w4 1)) = 0) →
        ((z3.2.1 w4 2) = 8 →
          (DX8_fork (z3.2.1 w4 1) z3.2) ∧
          let z8 := FX8_fork (z3.2.1 w4 1) z3.2
          True) ∧
        ((z3.2.1 w4 2) = 9 →
          (DXJ9_floorMod_7cf53 (z3.2.1 w4 3) (nI (256)) z3.2) ∧
          (DX8_end (z3.2.1 w4 1) (FXJ9_floorMod_7cf53 (z3.2.1 w4 3) (nI (256))) (-1) z3.2) ∧
          let z13 := FX8_end (z3.2.1 w4 1) (FXJ9_floorMod_7cf53 (z3.2.1 w4 3) (nI (256))) (-1) z3.2
          True) ∧
        ((z3.2.1 w4 2) = 10 →
          (DX8_await (z3.2.1 w4 1) z3.2) ∧
          let z16 := FX8_await (z3.2.1 w4 1) z3.2
          True) ∧
        ((z3.2.1 w4 2) = 11 →
          (((FX10_isUser (z3.2.1 w4 3)) = 0) →
            (DX1_send (nI (3)) (z3.2.1 w4 1) (nI (50)) (-11) (nI (0)) z3.2) ∧
            let z19 := FX1_send (nI (3)) (z3.2.1 w4 1) (nI (50)) (-11) (nI (0)) z3.2
            True) ∧
          (¬ ((FX10_isUser (z3.2.1 w4 3)) = 0) →
            (¬ (z3.2.1 w4 3) < 0) ∧
            (((z3.2.1 w4 3).toNatClampNeg) < 12) ∧
            (((z3.2.1 3 ((z3.2.1 w4 3).toNatClampNeg)) = 0) →
              (DX1_send (nI (3)) (z3.2.1 w4 1) (nI (50)) (-11) (nI (0)) z3.2) ∧
              let z24 := FX1_send (nI (3)) (z3.2.1 w4 1) (nI (50)) (-11) (nI (0)) z3.2
              True) ∧
            (¬ ((z3.2.1 3 ((z3.2.1 w4 3).toNatClampNeg)) = 0) →
              (¬ (z3.2.1 w4 3) < 0) ∧
              (((z3.2.1 w4 3).toNatClampNeg) < 12) ∧
              (((z3.2.1 358 ((z3.2.1 w4 3).toNatClampNeg)) = (z3.2.1 w4 1)) →
                (DX8_end (z3.2.1 w4 3) (nI (255)) (z3.2.1 w4 1) z3.2) ∧
                let z32 := FX8_end (z3.2.1 w4 3) (nI (255)) (z3.2.1 w4 1) z3.2
                True) ∧
              (¬ ((z3.2.1 358 ((z3.2.1 w4 3).toNatClampNeg)) = (z3.2.1 w4 1)) →
                (DX1_send (nI (3)) (z3.2.1 w4 1) (nI (50)) (-11) (nI (0)) z3.2) ∧
                let z29 := FX1_send (nI (3)) (z3.2.1 w4 1) (nI (50)) (-11) (nI (0)) z3.2
                True)))) ∧
        ((z3.2.1 w4 2) = 12 →
          (¬ (z3.2.1 w4 1) < 0) ∧
          (((z3.2.1 w4 1).toNatClampNeg) < 12) ∧
          (((z3.2.1 358 ((z3.2.1 w4 1).toNatClampNeg)) = (-1)) →
            (DX1_send (nI (3)) (z3.2.1 w4 1) (nI (50)) (nI (0)) (nI (0)) z3.2) ∧
            let z42 := FX1_send (nI (3)) (z3.2.1 w4 1) (nI (50)) (nI (0)) (nI (0)) z3.2
            True) ∧
          (¬ ((z3.2.1 358 ((z3.2.1 w4 1).toNatClampNeg)) = (-1)) →
            (¬ (z3.2.1 w4 1) < 0) ∧
            (((z3.2.1 w4 1).toNatClampNeg) < 12) ∧
            (DX1_send (nI (3)) (z3.2.1 w4 1) (nI (50)) (z3.2.1 358 ((z3.2.1 w4 1).toNatClampNeg)) (nI (0)) z3.2) ∧
            let z39 := FX1_send (nI (3)) (z3.2.1 w4 1) (nI (50)) (z3.2.1 358 ((z3.2.1 w4 1).toNatClampNeg)) (nI (0)) z3.2
            True)) ∧
        ((z3.2.1 w4 2) = 32 →
          (DX8_goOn  z3.2) ∧
          let z45 := FX8_goOn  z3.2
          True) ∧
        ((∀ c ∈ ([(8, 124), (9, 134), (10, 157), (11, 167), (12, 240), (32, 116)] : List (Int32 × Nat)), ¬ (z3.2.1 w4 2) = c.1) →
          True))
theorem pgo_rel {x : xD} {m : mD} {w v : Nat} {o : Option Nat} (h : R3 x m) (hw : isX w 6) (e1 : x.1 w 1 = nI v) (e2 : x.1 w 2 = m 6 1) (e3 : x.1 w 3 = m 6 2) (e0 : m 6 0 = nI v) (hv : v < 12) (hk : ¬ m 6 1 = 0 → ¬ m 6 1 = 32 → 4 ≤ v) (hd : m 0 23 = 0 ∨ m 0 23 = 1) (h5 : m 5 3 = -1) (htl : ¬ m 0 34 = 0) (h43 : m 0 43 = 0 ∨ m 0 43 = 1) (hs : iSta m) (hp : iPar m) (hi : iHel m) (h5u : ∀ u, u < 12 → 4 ≤ u → m 5 u = -1) : DXpgo w (o, x) ∧ Dpgo m ∧ R3 (FXpgo w (o, x)) (Fpgo m) := by
  have hc : (nI v).toNatClampNeg = v := nI_clamp (by omega)
  have pv := nI_pos (n := v) (by omega)
  have hip : ¬ FX10_isPart (nI v) = 0 := isPart_nz hv
  have c43 : x.1 357 4 = m 0 43 := h.2.2.2.2.2.2.2.2.1.2.1
  have K8 := fork_rel (u := v) h hv hd h5 htl hs
  have K9 : 4 ≤ v → _ := fun h4 => end_rel (u := v) (w := FfloorMod_7cf53 (m 6 2) (nI 256)) (l := -1) (y := nI v) (k := nI 9) h hv h4 (h5u v hv h4) hd h5 htl (Or.inl ⟨rfl, rfl⟩)
  have K10 : 4 ≤ v → _ := fun h4 => await_rel (u := v) h hv h4 hd h5 htl hp
  have T := fun a : Int32 => tells_rel (f := 3) (u := v) (v := a) h (by decide) hv (by omega) hd h5 htl
  have Kl : ∀ a, a < 12 → 4 ≤ a → _ := fun a ha ha4 => end_rel (u := a) (w := nI 255) (l := nI v) (y := nI v) (k := nI 11) h ha ha4 (h5u a ha ha4) hd h5 htl (Or.inr ⟨rfl, rfl⟩)
  have K32 : ¬ m 0 43 = 0 → _ := fun z => done_rel h hd h5 htl hi hp (h43.resolve_left z)
  have g0 : m 0 43 = 0 → FX8_goOn x = x ∧ DX8_goOn x := fun z => by
    have c0 : x.1 357 4 = 0 := c43.trans z
    rw [FX8_goOn, DX8_goOn, if_pos c0]
    exact ⟨rfl, fun _ => trivial, fun y => absurd c0 y⟩
  have nk : ∀ c : Int32, ¬ c = 0 → ¬ c = 32 → m 6 1 = c → 4 ≤ v := fun c c0 c32 z => hk (by rw [z]; exact c0) (by rw [z]; exact c32)
  have us : ∀ a : Int32, ¬ FisUser a = 0 → ∃ b, b < 12 ∧ 4 ≤ b ∧ a = nI b := fun a ha => by
    obtain ⟨n, hn, e⟩ := user_of ha
    exact ⟨n + 4, by omega, by omega, e⟩
  refine ⟨?_, ?_, ?_⟩
  · rw [DXpgo]
    dsimp only
    rw [e1, e2, e3, hc]
    refine ⟨hw, fun _ => trivial, fun _ => ⟨fun _ => ⟨K8.1, trivial⟩, fun z => ⟨⟨by decide, trivial⟩, (K9 (nk 9 (by decide) (by decide) z)).1, trivial⟩, fun z => ⟨(K10 (nk 10 (by decide) (by decide) z)).1, trivial⟩, fun _ => ⟨fun _ => ⟨(T _).1, trivial⟩, fun y => ?_⟩, fun z => ⟨pv, hv, fun _ => ⟨(T _).1, trivial⟩, fun _ => ⟨pv, hv, (T _).1, trivial⟩⟩, fun z => ⟨?_, trivial⟩, fun _ => trivial⟩⟩
    · obtain ⟨a, ha, ha4, ea⟩ := us _ y
      have pa := nI_pos (n := a) (by omega)
      rw [ea, nI_clamp (show a < 2 ^ 31 by omega)]
      exact ⟨pa, ha, fun _ => ⟨(T _).1, trivial⟩, fun _ => ⟨pa, ha, fun _ => ⟨(Kl a ha ha4).1, trivial⟩, fun _ => ⟨(T _).1, trivial⟩⟩⟩
    · rcases h43 with y | y
      · exact (g0 y).2
      · exact (K32 (by rw [y]; decide)).1
  · rw [Dpgo, e0, hc]
    refine ⟨fun _ => ⟨pv, K8.2.1, trivial⟩, fun z => ⟨⟨by decide, trivial⟩, pv, (K9 (nk 9 (by decide) (by decide) z)).2.1, trivial⟩, fun z => ⟨pv, (K10 (nk 10 (by decide) (by decide) z)).2.1, trivial⟩, fun _ => ⟨fun _ => ⟨pv, (T _).2.1, trivial⟩, fun y => ?_⟩, fun z => ⟨pv, hv, fun _ => ⟨pv, hv, pv, (T _).2.1, trivial⟩, fun _ => ⟨pv, (T _).2.1, trivial⟩⟩, fun _ => ⟨fun _ => trivial, fun z => ⟨(K32 z).2.1, trivial⟩⟩, fun _ => trivial⟩
    obtain ⟨a, ha, ha4, ea⟩ := us _ y
    have pa := nI_pos (n := a) (by omega)
    rw [ea, nI_clamp (show a < 2 ^ 31 by omega)]
    exact ⟨pa, ha, fun _ => ⟨pa, ha, fun _ => ⟨pa, (Kl a ha ha4).2.1, trivial⟩, fun _ => ⟨pv, (T _).2.1, trivial⟩⟩, fun _ => ⟨pv, (T _).2.1, trivial⟩⟩
  · rw [FXpgo, Fpgo]
    dsimp only
    rw [e1, e2, e3, e0, hc, if_neg hip]
    by_cases c8 : m 6 1 = 8
    · rw [if_pos c8, if_pos c8]; exact K8.2.2
    · rw [if_neg c8, if_neg c8]
      by_cases c9 : m 6 1 = 9
      · rw [if_pos c9, if_pos c9]; exact (K9 (nk 9 (by decide) (by decide) c9)).2.2
      · rw [if_neg c9, if_neg c9]
        by_cases c10 : m 6 1 = 10
        · rw [if_pos c10, if_pos c10]; exact (K10 (nk 10 (by decide) (by decide) c10)).2.2
        · rw [if_neg c10, if_neg c10]
          by_cases c11 : m 6 1 = 11
          · rw [if_pos c11, if_pos c11, isUser_same]
            by_cases y : FisUser (m 6 2) = 0
            · rw [if_pos y, if_pos y]; exact (T _).2.2.1
            · obtain ⟨a, ha, ha4, ea⟩ := us _ y
              have hlv := live_user h.1 ha ha4
              have hpa := parent_of h ha ha4
              rw [if_neg y, if_neg y, ea, nI_clamp (show a < 2 ^ 31 by omega), hpa]
              by_cases l : m 7 a = nI 1
              · have lx : ¬ x.1 3 a = 0 := fun z => hlv.mp z l
                rw [if_neg lx, if_pos l]
                by_cases p : m 11 a = nI v
                · rw [if_pos p, if_pos p]; exact (Kl a ha ha4).2.2
                · rw [if_neg p, if_neg p]; exact (T _).2.2.1
              · have lx : x.1 3 a = 0 := hlv.mpr l
                rw [if_pos lx, if_neg l, ite_self]
                exact (T _).2.2.1
          · rw [if_neg c11, if_neg c11]
            by_cases c12 : m 6 1 = 12
            · have h4 := nk 12 (by decide) (by decide) c12
              rw [if_pos c12, if_pos c12, parent_of h hv h4]
              rcases hp v hv h4 with z | ⟨b, hb, hb4, z, -⟩
              · rw [if_pos z, if_neg (by rw [z]; decide)]; exact (T _).2.2.1
              · rw [if_neg (by rw [z]; exact nI_ne_m1 b (by omega)), if_pos (by rw [z]; exact nI_pos' (by omega))]; exact (T _).2.2.1
            · rw [if_neg c12, if_neg c12]
              by_cases c32 : m 6 1 = 32
              · rw [if_pos c32, if_pos c32]
                by_cases z : m 0 43 = 0
                · rw [if_pos z, (g0 z).1]; exact h
                · rw [if_neg z]; exact (K32 z).2.2
              · rw [if_neg c32, if_neg c32]; exact h
/-- what PROCESSES' inbox holds -/
def iPrM (m : mD) : Prop := ∀ k M, M ≤ 12 → m 2 3 = nI M → k < M → ∃ v, v < 12 ∧ m 1 (13 * (12 * 3 + k) + 0) = nI v ∧ (¬ m 1 (13 * (12 * 3 + k) + 1) = 0 → ¬ m 1 (13 * (12 * 3 + k) + 1) = 32 → 4 ≤ v)
theorem Fprocesses_11_l {M f : Nat} {m : mD} (hM : M ≤ 12) (hm : m 2 3 = nI M) (h43 : ¬ m 0 43 = 0) (hf : f ≤ M) (h1 : ∀ j, j < f → ¬ (m 1 (13 * (12 * 3 + j) + 1) = 0 ∨ m 1 (13 * (12 * 3 + j) + 0) = nI 2)) (h2 : f < M → (m 1 (13 * (12 * 3 + f) + 1) = 0 ∨ m 1 (13 * (12 * 3 + f) + 0) = nI 2)) (hs : f < M → DtakeOut 3 f m ∧ Dpgo (FtakeOut 3 f m)) : ∀ (n k : Nat), k ≤ f → f - k < n → Fprocesses_11 n k m = (if f < M then Fpgo (FtakeOut 3 f m) else m) ∧ Dprocesses_11 n k m := by
  have hc : (m 2 3).toNatClampNeg = M := by rw [hm]; exact nI_clamp (by omega)
  have hp : ¬ m 2 3 < 0 := by rw [hm]; exact nI_pos (by omega)
  intro n
  induction n with
  | zero => intro k _ h; omega
  | succ n ih =>
    intro k hk hn
    rw [Fprocesses_11, Dprocesses_11, if_neg h43, hc]
    by_cases hkM : M ≤ k
    · have ek : k = M := by omega
      have ef : ¬ f < M := by omega
      rw [if_pos hkM, if_pos ek, if_neg ef]
      exact ⟨rfl, fun z => absurd z h43, fun _ => ⟨hp, by omega, by omega, fun _ => ⟨hp, by omega, by omega, fun _ => trivial, fun z => absurd ek z⟩, fun z => absurd hkM z⟩⟩
    · have ek : ¬ k = M := by omega
      have df : ∀ w, w < 2 → Dfield 3 k w m := fun w hw => ⟨by omega, trivial⟩
      have f0 : Ffield 3 k 0 m = m 1 (13 * (12 * 3 + k) + 0) := rfl
      have f1 : Ffield 3 k 1 m = m 1 (13 * (12 * 3 + k) + 1) := rfl
      rw [if_neg hkM, f0, f1]
      by_cases hkf : k = f
      · subst hkf
        obtain ⟨s1, s2⟩ := hs (by omega)
        rw [if_pos (show k < M by omega)]
        by_cases c0 : m 1 (13 * (12 * 3 + k) + 0) = nI 2
        · rw [if_pos c0, if_neg ek]
          generalize FtakeOut 3 k m = t at *
          exact ⟨rfl, fun z => absurd z h43, fun _ => ⟨hp, by omega, by omega, fun z => absurd z hkM, fun _ => ⟨df 0 (by decide), fun _ => ⟨hp, by omega, by omega, fun z => absurd z ek, fun _ => ⟨s1, s2⟩⟩, fun z => absurd c0 z⟩⟩⟩
        · have c1 := (h2 (by omega)).resolve_right c0
          rw [if_neg c0, if_pos c1, if_neg ek]
          generalize FtakeOut 3 k m = t at *
          exact ⟨rfl, fun z => absurd z h43, fun _ => ⟨hp, by omega, by omega, fun z => absurd z hkM, fun _ => ⟨df 0 (by decide), fun z => absurd z c0, fun _ => ⟨df 1 (by decide), fun _ => ⟨hp, by omega, by omega, fun z => absurd z ek, fun _ => ⟨s1, s2⟩⟩, fun z => absurd c1 z⟩⟩⟩⟩
      · have hn1 := h1 k (by omega)
        have c0 : ¬ m 1 (13 * (12 * 3 + k) + 0) = nI 2 := fun z => hn1 (Or.inr z)
        have c1 : ¬ m 1 (13 * (12 * 3 + k) + 1) = 0 := fun z => hn1 (Or.inl z)
        obtain ⟨i1, i2⟩ := ih (k + 1) (by omega) (by omega)
        rw [if_neg c0, if_neg c1]
        exact ⟨i1, fun z => absurd z h43, fun _ => ⟨hp, by omega, by omega, fun z => absurd z hkM, fun _ => ⟨df 0 (by decide), fun z => absurd z c0, fun _ => ⟨df 1 (by decide), fun z => absurd z c1, fun _ => i2⟩⟩⟩⟩
theorem Fprocesses_11_0 {M : Nat} {m : mD} (hM : M ≤ 12) (hm : m 2 3 = nI M) (h43 : m 0 43 = 0) (hs : 0 < M → DtakeOut 3 0 m ∧ Dpgo (FtakeOut 3 0 m)) {n : Nat} : Fprocesses_11 (n + 1) 0 m = (if 0 < M then Fpgo (FtakeOut 3 0 m) else m) ∧ Dprocesses_11 (n + 1) 0 m := by
  have hc : (m 2 3).toNatClampNeg = M := by rw [hm]; exact nI_clamp (by omega)
  have hp : ¬ m 2 3 < 0 := by rw [hm]; exact nI_pos (by omega)
  rw [Fprocesses_11, Dprocesses_11, if_pos h43, hc]
  by_cases e : 0 = M
  · rw [if_pos e, if_neg (show ¬ 0 < M by omega)]
    exact ⟨rfl, fun _ => ⟨hp, by omega, by omega, fun _ => trivial, fun z => absurd e z⟩, fun z => absurd h43 z⟩
  · obtain ⟨s1, s2⟩ := hs (by omega)
    rw [if_neg e, if_pos (show 0 < M by omega)]
    generalize FtakeOut 3 0 m = t at *
    exact ⟨rfl, fun _ => ⟨hp, by omega, by omega, fun z => absurd z e, fun _ => ⟨s1, s2⟩⟩, fun z => absurd h43 z⟩
