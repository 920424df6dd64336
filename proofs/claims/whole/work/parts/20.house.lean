def FX10_breakDriver  (x : xD) : xD :=
  let z3 := FX1_end (nI (1)) x
  let z4 := FX2_loseAll  z3
  let x5 : xD := (ab_up z4.1 343 1 (nI (0)), z4.2)
  let x6 : xD := (ab_up x5.1 0 8 ((x5.1 0 8) + (nI (1))), x5.2)
  x6
def DX10_breakDriver  (x : xD) : Prop :=
  (DX1_end (nI (1)) x) ∧
  let z3 := FX1_end (nI (1)) x
  let z4 := FX2_loseAll  z3
  let x5 : xD := (ab_up z4.1 343 1 (nI (0)), z4.2)
  let x6 : xD := (ab_up x5.1 0 8 ((x5.1 0 8) + (nI (1))), x5.2)
  True
set_option maxRecDepth 100000 in
set_option maxHeartbeats 4000000 in
theorem c_X10_breakDriver {tt : Prop}  (x : xD) (hD : DX10_breakDriver  x) : ab_Met mX10_breakDriver 2 0 0 tt [.ref (0 : Nat)] (sX x) (xQv (FX10_breakDriver  x)) := by
  refine ab_Met.of rfl (Nat.le_of_ble_eq_true rfl) ?_
  show xV mX10_breakDriver 2 tt (xQv (FX10_breakDriver  x)) 0 [some (.ref (0 : Nat))] [] x
  refine ab_aload_n (pc := 0) dX10_breakDriver_0 rfl rfl ?_
  refine xo_gr (pc := 1) (a := (1 : Nat)) dX10_breakDriver_1 fl_X10_12 (by decide) rfl rfl ?_
  refine ab_iconst (pc := 4) (v := nI 1) dX10_breakDriver_4 (by decide) ?_
  obtain ⟨o1, hD⟩ := hD
  have e2 := c_X1_end (tt := tt) _ _ o1
  refine xo_invv (N := mX1_end) (pc := 5) (d' := 1) (av := [_]) dX10_breakDriver_5 ml_X10_231 fv_X1_end (by decide) (Nat.le_of_ble_eq_true rfl) (by decide) e2 ?_
  refine ab_aload_n (pc := 8) dX10_breakDriver_8 rfl rfl ?_
  refine xo_gr (pc := 9) (a := (344 : Nat)) dX10_breakDriver_9 fl_X10_26 (by decide) rfl rfl ?_
  refine xo_invv (N := mX2_loseAll) (pc := 12) (d' := 0) (av := []) dX10_breakDriver_12 ml_X10_235 fv_X2_loseAll (by decide) (Nat.le_of_ble_eq_true rfl) (by decide) (c_X2_loseAll  _ trivial) ?_
  refine ab_aload_n (pc := 15) dX10_breakDriver_15 rfl rfl ?_
  refine xo_gr (pc := 16) (a := (343 : Nat)) dX10_breakDriver_16 fl_X10_19 (by decide) rfl rfl ?_
  refine ab_iconst (pc := 19) (v := nI 0) dX10_breakDriver_19 (by decide) ?_
  refine xo_pi (pc := 20) dX10_breakDriver_20 fl_X10_238 (by decide) rfl (fun _ _ _ h => Or.inl (by cases h; rfl)) (ab_ok_i _) ?_
  refine ab_aload_n (pc := 23) dX10_breakDriver_23 rfl rfl ?_
  refine ab_dup (pc := 24) dX10_breakDriver_24 rfl ?_
  refine xo_gi (pc := 25) dX10_breakDriver_25 fl_X10_58 (by decide) rfl ?_
  refine ab_iconst (pc := 28) (v := nI 1) dX10_breakDriver_28 (by decide) ?_
  refine ab_iadd (pc := 29) dX10_breakDriver_29 ?_
  refine xo_pi (pc := 30) dX10_breakDriver_30 fl_X10_58 (by decide) rfl (fun _ _ _ h => Or.inl (by cases h; rfl)) (ab_ok_i _) ?_
  refine xo_vr (pc := 33) dX10_breakDriver_33 rfl ?_
  first | rfl | (rw [FX10_breakDriver]; done) | (rw [FX10_breakDriver]; rfl)
def FX10_giveTurn  (x : xD) : xD :=
  if (nI (12)) ≤ ((x.1 0 7) + (nI (1))) then
    let x1 : xD := (ab_up x.1 0 7 (nI (0)), x.2)
    let x2 : xD := (ab_up x1.1 0 6 ((x1.1 0 6) + (nI (1))), x1.2)
    if (x.1 0 7) = 0 then
      let x47 : xD := (ab_up x2.1 343 0 ((x2.1 343 0) + (nI (1))), x2.2)
      if (x47.1 3 ((x.1 0 7).toNatClampNeg)) = 0 then
        x47
      else
        if (x.1 0 7) = (nI (1)) then
          if (x47.1 344 2) = 0 then
            let z73 := FX1_sendHeld (x.1 0 7) x47
            if (z73.1) = 0 then
              if (x.1 0 7) = 0 then
                let z76 := FX5_takeTurn  z73.2
                if (z76.1) = 0 then
                  z76.2
                else
                  let z79 := FX10_breakDriver  z76.2
                  z79
              else if (x.1 0 7) = 1 then
                let z82 := FX2_takeTurn  z73.2
                z82
              else if (x.1 0 7) = 2 then
                let z85 := FX3_takeTurn  z73.2
                z85
              else if (x.1 0 7) = 3 then
                let z88 := FX8_takeTurn  z73.2
                z88
              else
                let z91 := FX9_takeTurn (x.1 0 7) z73.2
                z91
            else
              z73.2
          else
            x47
        else
          let z52 := FX1_sendHeld (x.1 0 7) x47
          if (z52.1) = 0 then
            if (x.1 0 7) = 0 then
              let z55 := FX5_takeTurn  z52.2
              if (z55.1) = 0 then
                z55.2
              else
                let z58 := FX10_breakDriver  z55.2
                z58
            else if (x.1 0 7) = 1 then
              let z61 := FX2_takeTurn  z52.2
              z61
            else if (x.1 0 7) = 2 then
              let z64 := FX3_takeTurn  z52.2
              z64
            else if (x.1 0 7) = 3 then
              let z67 := FX8_takeTurn  z52.2
              z67
            else
              let z70 := FX9_takeTurn (x.1 0 7) z52.2
              z70
          else
            z52.2
    else
      if (x2.1 3 ((x.1 0 7).toNatClampNeg)) = 0 then
        x2
      else
        if (x.1 0 7) = (nI (1)) then
          if (x2.1 344 2) = 0 then
            let z28 := FX1_sendHeld (x.1 0 7) x2
            if (z28.1) = 0 then
              if (x.1 0 7) = 0 then
                let z31 := FX5_takeTurn  z28.2
                if (z31.1) = 0 then
                  z31.2
                else
                  let z34 := FX10_breakDriver  z31.2
                  z34
              else if (x.1 0 7) = 1 then
                let z37 := FX2_takeTurn  z28.2
                z37
              else if (x.1 0 7) = 2 then
                let z40 := FX3_takeTurn  z28.2
                z40
              else if (x.1 0 7) = 3 then
                let z43 := FX8_takeTurn  z28.2
                z43
              else
                let z46 := FX9_takeTurn (x.1 0 7) z28.2
                z46
            else
              z28.2
          else
            x2
        else
          let z7 := FX1_sendHeld (x.1 0 7) x2
          if (z7.1) = 0 then
            if (x.1 0 7) = 0 then
              let z10 := FX5_takeTurn  z7.2
              if (z10.1) = 0 then
                z10.2
              else
                let z13 := FX10_breakDriver  z10.2
                z13
            else if (x.1 0 7) = 1 then
              let z16 := FX2_takeTurn  z7.2
              z16
            else if (x.1 0 7) = 2 then
              let z19 := FX3_takeTurn  z7.2
              z19
            else if (x.1 0 7) = 3 then
              let z22 := FX8_takeTurn  z7.2
              z22
            else
              let z25 := FX9_takeTurn (x.1 0 7) z7.2
              z25
          else
            z7.2
  else
    let x92 : xD := (ab_up x.1 0 7 ((x.1 0 7) + (nI (1))), x.2)
    let x93 : xD := (ab_up x92.1 0 6 ((x92.1 0 6) + (nI (1))), x92.2)
    if (x.1 0 7) = 0 then
      let x138 : xD := (ab_up x93.1 343 0 ((x93.1 343 0) + (nI (1))), x93.2)
      if (x138.1 3 ((x.1 0 7).toNatClampNeg)) = 0 then
        x138
      else
        if (x.1 0 7) = (nI (1)) then
          if (x138.1 344 2) = 0 then
            let z164 := FX1_sendHeld (x.1 0 7) x138
            if (z164.1) = 0 then
              if (x.1 0 7) = 0 then
                let z167 := FX5_takeTurn  z164.2
                if (z167.1) = 0 then
                  z167.2
                else
                  let z170 := FX10_breakDriver  z167.2
                  z170
              else if (x.1 0 7) = 1 then
                let z173 := FX2_takeTurn  z164.2
                z173
              else if (x.1 0 7) = 2 then
                let z176 := FX3_takeTurn  z164.2
                z176
              else if (x.1 0 7) = 3 then
                let z179 := FX8_takeTurn  z164.2
                z179
              else
                let z182 := FX9_takeTurn (x.1 0 7) z164.2
                z182
            else
              z164.2
          else
            x138
        else
          let z143 := FX1_sendHeld (x.1 0 7) x138
          if (z143.1) = 0 then
            if (x.1 0 7) = 0 then
              let z146 := FX5_takeTurn  z143.2
              if (z146.1) = 0 then
                z146.2
              else
                let z149 := FX10_breakDriver  z146.2
                z149
            else if (x.1 0 7) = 1 then
              let z152 := FX2_takeTurn  z143.2
              z152
            else if (x.1 0 7) = 2 then
              let z155 := FX3_takeTurn  z143.2
              z155
            else if (x.1 0 7) = 3 then
              let z158 := FX8_takeTurn  z143.2
              z158
            else
              let z161 := FX9_takeTurn (x.1 0 7) z143.2
              z161
          else
            z143.2
    else
      if (x93.1 3 ((x.1 0 7).toNatClampNeg)) = 0 then
        x93
      else
        if (x.1 0 7) = (nI (1)) then
          if (x93.1 344 2) = 0 then
            let z119 := FX1_sendHeld (x.1 0 7) x93
            if (z119.1) = 0 then
              if (x.1 0 7) = 0 then
                let z122 := FX5_takeTurn  z119.2
                if (z122.1) = 0 then
                  z122.2
                else
                  let z125 := FX10_breakDriver  z122.2
                  z125
              else if (x.1 0 7) = 1 then
                let z128 := FX2_takeTurn  z119.2
                z128
              else if (x.1 0 7) = 2 then
                let z131 := FX3_takeTurn  z119.2
                z131
              else if (x.1 0 7) = 3 then
                let z134 := FX8_takeTurn  z119.2
                z134
              else
                let z137 := FX9_takeTurn (x.1 0 7) z119.2
                z137
            else
              z119.2
          else
            x93
        else
          let z98 := FX1_sendHeld (x.1 0 7) x93
          if (z98.1) = 0 then
            if (x.1 0 7) = 0 then
              let z101 := FX5_takeTurn  z98.2
              if (z101.1) = 0 then
                z101.2
              else
                let z104 := FX10_breakDriver  z101.2
                z104
            else if (x.1 0 7) = 1 then
              let z107 := FX2_takeTurn  z98.2
              z107
            else if (x.1 0 7) = 2 then
              let z110 := FX3_takeTurn  z98.2
              z110
            else if (x.1 0 7) = 3 then
              let z113 := FX8_takeTurn  z98.2
              z113
            else
              let z116 := FX9_takeTurn (x.1 0 7) z98.2
              z116
          else
            z98.2
def DX10_giveTurn  (x : xD) : Prop :=
  (((nI (12)) ≤ ((x.1 0 7) + (nI (1)))) →
    let x1 : xD := (ab_up x.1 0 7 (nI (0)), x.2)
    let x2 : xD := (ab_up x1.1 0 6 ((x1.1 0 6) + (nI (1))), x1.2)
    (((x.1 0 7) = 0) →
      let x47 : xD := (ab_up x2.1 343 0 ((x2.1 343 0) + (nI (1))), x2.2)
      (¬ (x.1 0 7) < 0) ∧
      (((x.1 0 7).toNatClampNeg) < 12) ∧
      (((x47.1 3 ((x.1 0 7).toNatClampNeg)) = 0) →
        True) ∧
      (¬ ((x47.1 3 ((x.1 0 7).toNatClampNeg)) = 0) →
        (((x.1 0 7) = (nI (1))) →
          (((x47.1 344 2) = 0) →
            (DX1_sendHeld (x.1 0 7) x47) ∧
            let z73 := FX1_sendHeld (x.1 0 7) x47
            (((z73.1) = 0) →
              ((x.1 0 7) = 0 →
                (DX5_takeTurn  z73.2) ∧
                let z76 := FX5_takeTurn  z73.2
                (((z76.1) = 0) →
                  True) ∧
                (¬ ((z76.1) = 0) →
                  (DX10_breakDriver  z76.2) ∧
                  let z79 := FX10_breakDriver  z76.2
                  True)) ∧
              ((x.1 0 7) = 1 →
                (DX2_takeTurn  z73.2) ∧
                let z82 := FX2_takeTurn  z73.2
                True) ∧
              ((x.1 0 7) = 2 →
                (DX3_takeTurn  z73.2) ∧
                let z85 := FX3_takeTurn  z73.2
                True) ∧
              ((x.1 0 7) = 3 →
                (DX8_takeTurn  z73.2) ∧
                let z88 := FX8_takeTurn  z73.2
                True) ∧
              ((∀ c ∈ ([(0, 120), (1, 141), (2, 155), (3, 169)] : List (Int32 × Nat)), ¬ (x.1 0 7) = c.1) →
                (DX9_takeTurn (x.1 0 7) z73.2) ∧
                let z91 := FX9_takeTurn (x.1 0 7) z73.2
                True)) ∧
            (¬ ((z73.1) = 0) →
              True)) ∧
          (¬ ((x47.1 344 2) = 0) →
            True)) ∧
        (¬ ((x.1 0 7) = (nI (1))) →
          (DX1_sendHeld (x.1 0 7) x47) ∧
          let z52 := FX1_sendHeld (x.1 0 7) x47
          (((z52.1) = 0) →
            ((x.1 0 7) = 0 →
              (DX5_takeTurn  z52.2) ∧
              let z55 := FX5_takeTurn  z52.2
              (((z55.1) = 0) →
                True) ∧
              (¬ ((z55.1) = 0) →
                (DX10_breakDriver  z55.2) ∧
                let z58 := FX10_breakDriver  z55.2
                True)) ∧
            ((x.1 0 7) = 1 →
              (DX2_takeTurn  z52.2) ∧
              let z61 := FX2_takeTurn  z52.2
              True) ∧
            ((x.1 0 7) = 2 →
              (DX3_takeTurn  z52.2) ∧
              let z64 := FX3_takeTurn  z52.2
              True) ∧
            ((x.1 0 7) = 3 →
              (DX8_takeTurn  z52.2) ∧
              let z67 := FX8_takeTurn  z52.2
              True) ∧
            ((∀ c ∈ ([(0, 120), (1, 141), (2, 155), (3, 169)] : List (Int32 × Nat)), ¬ (x.1 0 7) = c.1) →
              (DX9_takeTurn (x.1 0 7) z52.2) ∧
              let z70 := FX9_takeTurn (x.1 0 7) z52.2
              True)) ∧
          (¬ ((z52.1) = 0) →
            True)))) ∧
    (¬ ((x.1 0 7) = 0) →
      (¬ (x.1 0 7) < 0) ∧
      (((x.1 0 7).toNatClampNeg) < 12) ∧
      (((x2.1 3 ((x.1 0 7).toNatClampNeg)) = 0) →
        True) ∧
      (¬ ((x2.1 3 ((x.1 0 7).toNatClampNeg)) = 0) →
        (((x.1 0 7) = (nI (1))) →
          (((x2.1 344 2) = 0) →
            (DX1_sendHeld (x.1 0 7) x2) ∧
            let z28 := FX1_sendHeld (x.1 0 7) x2
            (((z28.1) = 0) →
              ((x.1 0 7) = 0 →
                (DX5_takeTurn  z28.2) ∧
                let z31 := FX5_takeTurn  z28.2
                (((z31.1) = 0) →
                  True) ∧
                (¬ ((z31.1) = 0) →
                  (DX10_breakDriver  z31.2) ∧
                  let z34 := FX10_breakDriver  z31.2
                  True)) ∧
              ((x.1 0 7) = 1 →
                (DX2_takeTurn  z28.2) ∧
                let z37 := FX2_takeTurn  z28.2
                True) ∧
              ((x.1 0 7) = 2 →
                (DX3_takeTurn  z28.2) ∧
                let z40 := FX3_takeTurn  z28.2
                True) ∧
              ((x.1 0 7) = 3 →
                (DX8_takeTurn  z28.2) ∧
                let z43 := FX8_takeTurn  z28.2
                True) ∧
              ((∀ c ∈ ([(0, 120), (1, 141), (2, 155), (3, 169)] : List (Int32 × Nat)), ¬ (x.1 0 7) = c.1) →
                (DX9_takeTurn (x.1 0 7) z28.2) ∧
                let z46 := FX9_takeTurn (x.1 0 7) z28.2
                True)) ∧
            (¬ ((z28.1) = 0) →
              True)) ∧
          (¬ ((x2.1 344 2) = 0) →
            True)) ∧
        (¬ ((x.1 0 7) = (nI (1))) →
          (DX1_sendHeld (x.1 0 7) x2) ∧
          let z7 := FX1_sendHeld (x.1 0 7) x2
          (((z7.1) = 0) →
            ((x.1 0 7) = 0 →
              (DX5_takeTurn  z7.2) ∧
              let z10 := FX5_takeTurn  z7.2
              (((z10.1) = 0) →
                True) ∧
              (¬ ((z10.1) = 0) →
                (DX10_breakDriver  z10.2) ∧
                let z13 := FX10_breakDriver  z10.2
                True)) ∧
            ((x.1 0 7) = 1 →
              (DX2_takeTurn  z7.2) ∧
              let z16 := FX2_takeTurn  z7.2
              True) ∧
            ((x.1 0 7) = 2 →
              (DX3_takeTurn  z7.2) ∧
              let z19 := FX3_takeTurn  z7.2
              True) ∧
            ((x.1 0 7) = 3 →
              (DX8_takeTurn  z7.2) ∧
              let z22 := FX8_takeTurn  z7.2
              True) ∧
            ((∀ c ∈ ([(0, 120), (1, 141), (2, 155), (3, 169)] : List (Int32 × Nat)), ¬ (x.1 0 7) = c.1) →
              (DX9_takeTurn (x.1 0 7) z7.2) ∧
              let z25 := FX9_takeTurn (x.1 0 7) z7.2
              True)) ∧
          (¬ ((z7.1) = 0) →
            True))))) ∧
  (¬ ((nI (12)) ≤ ((x.1 0 7) + (nI (1)))) →
    let x92 : xD := (ab_up x.1 0 7 ((x.1 0 7) + (nI (1))), x.2)
    let x93 : xD := (ab_up x92.1 0 6 ((x92.1 0 6) + (nI (1))), x92.2)
    (((x.1 0 7) = 0) →
      let x138 : xD := (ab_up x93.1 343 0 ((x93.1 343 0) + (nI (1))), x93.2)
      (¬ (x.1 0 7) < 0) ∧
      (((x.1 0 7).toNatClampNeg) < 12) ∧
      (((x138.1 3 ((x.1 0 7).toNatClampNeg)) = 0) →
        True) ∧
      (¬ ((x138.1 3 ((x.1 0 7).toNatClampNeg)) = 0) →
        (((x.1 0 7) = (nI (1))) →
          (((x138.1 344 2) = 0) →
            (DX1_sendHeld (x.1 0 7) x138) ∧
            let z164 := FX1_sendHeld (x.1 0 7) x138
            (((z164.1) = 0) →
              ((x.1 0 7) = 0 →
                (DX5_takeTurn  z164.2) ∧
                let z167 := FX5_takeTurn  z164.2
                (((z167.1) = 0) →
                  True) ∧
                (¬ ((z167.1) = 0) →
                  (DX10_breakDriver  z167.2) ∧
                  let z170 := FX10_breakDriver  z167.2
                  True)) ∧
              ((x.1 0 7) = 1 →
                (DX2_takeTurn  z164.2) ∧
                let z173 := FX2_takeTurn  z164.2
                True) ∧
              ((x.1 0 7) = 2 →
                (DX3_takeTurn  z164.2) ∧
                let z176 := FX3_takeTurn  z164.2
                True) ∧
              ((x.1 0 7) = 3 →
                (DX8_takeTurn  z164.2) ∧
                let z179 := FX8_takeTurn  z164.2
                True) ∧
              ((∀ c ∈ ([(0, 120), (1, 141), (2, 155), (3, 169)] : List (Int32 × Nat)), ¬ (x.1 0 7) = c.1) →
                (DX9_takeTurn (x.1 0 7) z164.2) ∧
                let z182 := FX9_takeTurn (x.1 0 7) z164.2
                True)) ∧
            (¬ ((z164.1) = 0) →
              True)) ∧
          (¬ ((x138.1 344 2) = 0) →
            True)) ∧
        (¬ ((x.1 0 7) = (nI (1))) →
          (DX1_sendHeld (x.1 0 7) x138) ∧
          let z143 := FX1_sendHeld (x.1 0 7) x138
          (((z143.1) = 0) →
            ((x.1 0 7) = 0 →
              (DX5_takeTurn  z143.2) ∧
              let z146 := FX5_takeTurn  z143.2
              (((z146.1) = 0) →
                True) ∧
              (¬ ((z146.1) = 0) →
                (DX10_breakDriver  z146.2) ∧
                let z149 := FX10_breakDriver  z146.2
                True)) ∧
            ((x.1 0 7) = 1 →
              (DX2_takeTurn  z143.2) ∧
              let z152 := FX2_takeTurn  z143.2
              True) ∧
            ((x.1 0 7) = 2 →
              (DX3_takeTurn  z143.2) ∧
              let z155 := FX3_takeTurn  z143.2
              True) ∧
            ((x.1 0 7) = 3 →
              (DX8_takeTurn  z143.2) ∧
              let z158 := FX8_takeTurn  z143.2
              True) ∧
            ((∀ c ∈ ([(0, 120), (1, 141), (2, 155), (3, 169)] : List (Int32 × Nat)), ¬ (x.1 0 7) = c.1) →
              (DX9_takeTurn (x.1 0 7) z143.2) ∧
              let z161 := FX9_takeTurn (x.1 0 7) z143.2
              True)) ∧
          (¬ ((z143.1) = 0) →
            True)))) ∧
    (¬ ((x.1 0 7) = 0) →
      (¬ (x.1 0 7) < 0) ∧
      (((x.1 0 7).toNatClampNeg) < 12) ∧
      (((x93.1 3 ((x.1 0 7).toNatClampNeg)) = 0) →
        True) ∧
      (¬ ((x93.1 3 ((x.1 0 7).toNatClampNeg)) = 0) →
        (((x.1 0 7) = (nI (1))) →
          (((x93.1 344 2) = 0) →
            (DX1_sendHeld (x.1 0 7) x93) ∧
            let z119 := FX1_sendHeld (x.1 0 7) x93
            (((z119.1) = 0) →
              ((x.1 0 7) = 0 →
                (DX5_takeTurn  z119.2) ∧
                let z122 := FX5_takeTurn  z119.2
                (((z122.1) = 0) →
                  True) ∧
                (¬ ((z122.1) = 0) →
                  (DX10_breakDriver  z122.2) ∧
                  let z125 := FX10_breakDriver  z122.2
                  True)) ∧
              ((x.1 0 7) = 1 →
                (DX2_takeTurn  z119.2) ∧
                let z128 := FX2_takeTurn  z119.2
                True) ∧
              ((x.1 0 7) = 2 →
                (DX3_takeTurn  z119.2) ∧
                let z131 := FX3_takeTurn  z119.2
                True) ∧
              ((x.1 0 7) = 3 →
                (DX8_takeTurn  z119.2) ∧
                let z134 := FX8_takeTurn  z119.2
                True) ∧
              ((∀ c ∈ ([(0, 120), (1, 141), (2, 155), (3, 169)] : List (Int32 × Nat)), ¬ (x.1 0 7) = c.1) →
                (DX9_takeTurn (x.1 0 7) z119.2) ∧
                let z137 := FX9_takeTurn (x.1 0 7) z119.2
                True)) ∧
            (¬ ((z119.1) = 0) →
              True)) ∧
          (¬ ((x93.1 344 2) = 0) →
            True)) ∧
        (¬ ((x.1 0 7) = (nI (1))) →
          (DX1_sendHeld (x.1 0 7) x93) ∧
          let z98 := FX1_sendHeld (x.1 0 7) x93
          (((z98.1) = 0) →
            ((x.1 0 7) = 0 →
              (DX5_takeTurn  z98.2) ∧
              let z101 := FX5_takeTurn  z98.2
              (((z101.1) = 0) →
                True) ∧
              (¬ ((z101.1) = 0) →
                (DX10_breakDriver  z101.2) ∧
                let z104 := FX10_breakDriver  z101.2
                True)) ∧
            ((x.1 0 7) = 1 →
              (DX2_takeTurn  z98.2) ∧
              let z107 := FX2_takeTurn  z98.2
              True) ∧
            ((x.1 0 7) = 2 →
              (DX3_takeTurn  z98.2) ∧
              let z110 := FX3_takeTurn  z98.2
              True) ∧
            ((x.1 0 7) = 3 →
              (DX8_takeTurn  z98.2) ∧
              let z113 := FX8_takeTurn  z98.2
              True) ∧
            ((∀ c ∈ ([(0, 120), (1, 141), (2, 155), (3, 169)] : List (Int32 × Nat)), ¬ (x.1 0 7) = c.1) →
              (DX9_takeTurn (x.1 0 7) z98.2) ∧
              let z116 := FX9_takeTurn (x.1 0 7) z98.2
              True)) ∧
          (¬ ((z98.1) = 0) →
            True)))))
set_option maxRecDepth 100000 in
set_option maxHeartbeats 4000000 in
theorem c_X10_giveTurn {tt : Prop}  (x : xD) (hD : DX10_giveTurn  x) : ab_Met mX10_giveTurn 5 0 0 tt [.ref (0 : Nat)] (sX x) (xQv (FX10_giveTurn  x)) := by
  refine ab_Met.of rfl (Nat.le_of_ble_eq_true rfl) ?_
  show xV mX10_giveTurn 5 tt (xQv (FX10_giveTurn  x)) 0 [some (.ref (0 : Nat)), none] [] x
  refine ab_aload_n (pc := 0) dX10_giveTurn_0 rfl rfl ?_
  refine xo_gi (pc := 1) dX10_giveTurn_1 fl_X10_55 (by decide) rfl ?_
  refine ab_istore_n (pc := 4) dX10_giveTurn_4 rfl (Nat.le_of_ble_eq_true rfl) rfl ?_
  refine ab_aload_n (pc := 5) dX10_giveTurn_5 rfl rfl ?_
  refine ab_iload_n (pc := 6) dX10_giveTurn_6 rfl rfl ?_
  refine ab_iconst (pc := 7) (v := nI 1) dX10_giveTurn_7 (by decide) ?_
  refine ab_iadd (pc := 8) dX10_giveTurn_8 ?_
  refine ab_bipush (pc := 9) (v := nI 12) dX10_giveTurn_9 (by decide) ?_
  refine ab_icmp_ge (pc := 11) (tgt := 20) dX10_giveTurn_11 (by decide) (fun c_11 => ?_) (fun c_11 => ?_)
  · replace hD := hD.1 c_11
    refine ab_iconst (pc := 20) (v := nI 0) dX10_giveTurn_20 (by decide) ?_
    refine xo_pi (pc := 21) dX10_giveTurn_21 fl_X10_55 (by decide) rfl (fun _ _ _ h => Or.inl (by cases h; rfl)) (ab_ok_i _) ?_
    refine ab_aload_n (pc := 24) dX10_giveTurn_24 rfl rfl ?_
    refine ab_dup (pc := 25) dX10_giveTurn_25 rfl ?_
    refine xo_gi (pc := 26) dX10_giveTurn_26 fl_X10_51 (by decide) rfl ?_
    refine ab_iconst (pc := 29) (v := nI 1) dX10_giveTurn_29 (by decide) ?_
    refine ab_iadd (pc := 30) dX10_giveTurn_30 ?_
    refine xo_pi (pc := 31) dX10_giveTurn_31 fl_X10_51 (by decide) rfl (fun _ _ _ h => Or.inl (by cases h; rfl)) (ab_ok_i _) ?_
    refine ab_iload_n (pc := 34) dX10_giveTurn_34 rfl rfl ?_
    refine ab_if_ne (pc := 35) (tgt := 51) dX10_giveTurn_35 (by decide) (fun c_35 => ?_) (fun c_35 => ?_)
    · replace hD := hD.2 c_35
      refine ab_aload_n (pc := 51) dX10_giveTurn_51 rfl rfl ?_
      refine xo_gr (pc := 52) (a := (1 : Nat)) dX10_giveTurn_52 fl_X10_12 (by decide) rfl rfl ?_
      refine xo_gr (pc := 55) (a := (3 : Nat)) dX10_giveTurn_55 fl_X10_65 (by decide) rfl rfl ?_
      refine ab_iload_n (pc := 58) dX10_giveTurn_58 rfl rfl ?_
      obtain ⟨o3, hD⟩ := hD
      refine ab_nat1 (ab_nat o3) ?_
      obtain ⟨o4, hD⟩ := hD
      refine xo_zld (pc := 59) dX10_giveTurn_59 (by decide) rfl o4 (by decide) ?_
      refine ab_if_eq (pc := 60) (tgt := 89) dX10_giveTurn_60 (by decide) (fun c_60 => ?_) (fun c_60 => ?_)
      · refine xo_vr (pc := 89) dX10_giveTurn_89 rfl ?_
        (rw [FX10_giveTurn]; (first | rw [if_pos c_11] | (dsimp only; rw [if_pos c_11])); (first | rw [if_neg c_35] | (dsimp only; rw [if_neg c_35])); (first | rw [if_pos c_60] | (dsimp only; rw [if_pos c_60])); (first | done | rfl | (dsimp only; done)))
      · replace hD := hD.2 c_60
        refine ab_iload_n (pc := 63) dX10_giveTurn_63 rfl rfl ?_
        refine ab_iconst (pc := 64) (v := nI 1) dX10_giveTurn_64 (by decide) ?_
        refine ab_icmp_ne (pc := 65) (tgt := 78) dX10_giveTurn_65 (by decide) (fun c_65 => ?_) (fun c_65 => ?_)
        · replace hD := hD.2 c_65
          refine ab_aload_n (pc := 78) dX10_giveTurn_78 rfl rfl ?_
          refine xo_gr (pc := 79) (a := (1 : Nat)) dX10_giveTurn_79 fl_X10_12 (by decide) rfl rfl ?_
          refine ab_iload_n (pc := 82) dX10_giveTurn_82 rfl rfl ?_
          obtain ⟨o5, hD⟩ := hD
          have e6 := c_X1_sendHeld (tt := tt) _ _ o5
          refine xo_invi (N := mX1_sendHeld) (pc := 83) (d' := 2) (av := [_]) dX10_giveTurn_83 ml_X10_214 fv_X1_sendHeld (by decide) (Nat.le_of_ble_eq_true rfl) (by decide) e6 ?_
          refine ab_if_eq (pc := 86) (tgt := 90) dX10_giveTurn_86 (by decide) (fun c_86 => ?_) (fun c_86 => ?_)
          · replace hD := hD.1 c_86
            refine ab_iload_n (pc := 90) dX10_giveTurn_90 rfl rfl ?_
            refine ab_tsw (pc := 91) [(0, 120), (1, 141), (2, 155), (3, 169)] 187 dX10_giveTurn_91 (by decide +kernel) (ab_c1 (fun c_91 => ?_) (ab_c1 (fun c_91 => ?_) (ab_c1 (fun c_91 => ?_) (ab_c1 (fun c_91 => ?_) (ab_c0))))) (fun c_91 => ?_)
            · replace hD := hD.1 c_91
              refine ab_aload_n (pc := 120) dX10_giveTurn_120 rfl rfl ?_
              refine xo_gr (pc := 121) (a := (343 : Nat)) dX10_giveTurn_121 fl_X10_19 (by decide) rfl rfl ?_
              refine ab_aload_n (pc := 124) dX10_giveTurn_124 rfl rfl ?_
              refine xo_gr (pc := 125) (a := (1 : Nat)) dX10_giveTurn_125 fl_X10_12 (by decide) rfl rfl ?_
              obtain ⟨o8, hD⟩ := hD
              have e9 := c_X5_takeTurn (tt := tt)  _ o8
              refine xo_invi (N := mX5_takeTurn) (pc := 128) (d' := 4) (av := [_]) dX10_giveTurn_128 ml_X10_217 fv_X5_takeTurn (by decide) (Nat.le_of_ble_eq_true rfl) (by decide) e9 ?_
              refine ab_if_eq (pc := 131) (tgt := 199) dX10_giveTurn_131 (by decide) (fun c_131 => ?_) (fun c_131 => ?_)
              · refine xo_vr (pc := 199) dX10_giveTurn_199 rfl ?_
                (rw [FX10_giveTurn]; (first | rw [if_pos c_11] | (dsimp only; rw [if_pos c_11])); (first | rw [if_neg c_35] | (dsimp only; rw [if_neg c_35])); (first | rw [if_neg c_60] | (dsimp only; rw [if_neg c_60])); (first | rw [if_neg c_65] | (dsimp only; rw [if_neg c_65])); (first | rw [if_pos c_86] | (dsimp only; rw [if_pos c_86])); (first | rw [if_pos c_91] | (dsimp only; rw [if_pos c_91])); (first | rw [if_pos c_131] | (dsimp only; rw [if_pos c_131])); (first | done | rfl | (dsimp only; done)))
              · replace hD := hD.2 c_131
                refine ab_aload_n (pc := 134) dX10_giveTurn_134 rfl rfl ?_
                obtain ⟨o11, hD⟩ := hD
                have e12 := c_X10_breakDriver (tt := tt)  _ o11
                refine xo_invv (N := mX10_breakDriver) (pc := 135) (d' := 2) (av := []) dX10_giveTurn_135 ml_X10_83 fv_X10_breakDriver (by decide) (Nat.le_of_ble_eq_true rfl) (by decide) e12 ?_
                refine ab_goto (pc := 138) (tgt := 199) dX10_giveTurn_138 (by decide) ?_
                refine xo_vr (pc := 199) dX10_giveTurn_199 rfl ?_
                (rw [FX10_giveTurn]; (first | rw [if_pos c_11] | (dsimp only; rw [if_pos c_11])); (first | rw [if_neg c_35] | (dsimp only; rw [if_neg c_35])); (first | rw [if_neg c_60] | (dsimp only; rw [if_neg c_60])); (first | rw [if_neg c_65] | (dsimp only; rw [if_neg c_65])); (first | rw [if_pos c_86] | (dsimp only; rw [if_pos c_86])); (first | rw [if_pos c_91] | (dsimp only; rw [if_pos c_91])); (first | rw [if_neg c_131] | (dsimp only; rw [if_neg c_131])); (first | done | rfl | (dsimp only; done)))
            · replace hD := hD.2.1 c_91
              refine ab_aload_n (pc := 141) dX10_giveTurn_141 rfl rfl ?_
              refine xo_gr (pc := 142) (a := (344 : Nat)) dX10_giveTurn_142 fl_X10_26 (by decide) rfl rfl ?_
              refine ab_aload_n (pc := 145) dX10_giveTurn_145 rfl rfl ?_
              refine xo_gr (pc := 146) (a := (1 : Nat)) dX10_giveTurn_146 fl_X10_12 (by decide) rfl rfl ?_
              obtain ⟨o14, hD⟩ := hD
              have e15 := c_X2_takeTurn (tt := tt)  _ o14
              refine xo_invv (N := mX2_takeTurn) (pc := 149) (d' := 3) (av := [_]) dX10_giveTurn_149 ml_X10_221 fv_X2_takeTurn (by decide) (Nat.le_of_ble_eq_true rfl) (by decide) e15 ?_
              refine ab_goto (pc := 152) (tgt := 199) dX10_giveTurn_152 (by decide) ?_
              refine xo_vr (pc := 199) dX10_giveTurn_199 rfl ?_
              (rw [FX10_giveTurn]; (first | rw [if_pos c_11] | (dsimp only; rw [if_pos c_11])); (first | rw [if_neg c_35] | (dsimp only; rw [if_neg c_35])); (first | rw [if_neg c_60] | (dsimp only; rw [if_neg c_60])); (first | rw [if_neg c_65] | (dsimp only; rw [if_neg c_65])); (first | rw [if_pos c_86] | (dsimp only; rw [if_pos c_86])); (first | rw [if_neg (fun h => absurd (c_91.symm.trans h) (by decide))] | (dsimp only; rw [if_neg (fun h => absurd (c_91.symm.trans h) (by decide))])); (first | rw [if_pos c_91] | (dsimp only; rw [if_pos c_91])); (first | done | rfl | (dsimp only; done)))
            · replace hD := hD.2.2.1 c_91
              refine ab_aload_n (pc := 155) dX10_giveTurn_155 rfl rfl ?_
              refine xo_gr (pc := 156) (a := (347 : Nat)) dX10_giveTurn_156 fl_X10_33 (by decide) rfl rfl ?_
              refine ab_aload_n (pc := 159) dX10_giveTurn_159 rfl rfl ?_
              refine xo_gr (pc := 160) (a := (1 : Nat)) dX10_giveTurn_160 fl_X10_12 (by decide) rfl rfl ?_
              obtain ⟨o17, hD⟩ := hD
              have e18 := c_X3_takeTurn (tt := tt)  _ o17
              refine xo_invv (N := mX3_takeTurn) (pc := 163) (d' := 4) (av := [_]) dX10_giveTurn_163 ml_X10_224 fv_X3_takeTurn (by decide) (Nat.le_of_ble_eq_true rfl) (by decide) e18 ?_
              refine ab_goto (pc := 166) (tgt := 199) dX10_giveTurn_166 (by decide) ?_
              refine xo_vr (pc := 199) dX10_giveTurn_199 rfl ?_
              (rw [FX10_giveTurn]; (first | rw [if_pos c_11] | (dsimp only; rw [if_pos c_11])); (first | rw [if_neg c_35] | (dsimp only; rw [if_neg c_35])); (first | rw [if_neg c_60] | (dsimp only; rw [if_neg c_60])); (first | rw [if_neg c_65] | (dsimp only; rw [if_neg c_65])); (first | rw [if_pos c_86] | (dsimp only; rw [if_pos c_86])); (first | rw [if_neg (fun h => absurd (c_91.symm.trans h) (by decide))] | (dsimp only; rw [if_neg (fun h => absurd (c_91.symm.trans h) (by decide))])); (first | rw [if_neg (fun h => absurd (c_91.symm.trans h) (by decide))] | (dsimp only; rw [if_neg (fun h => absurd (c_91.symm.trans h) (by decide))])); (first | rw [if_pos c_91] | (dsimp only; rw [if_pos c_91])); (first | done | rfl | (dsimp only; done)))
            · replace hD := hD.2.2.2.1 c_91
              refine ab_aload_n (pc := 169) dX10_giveTurn_169 rfl rfl ?_
              refine xo_gr (pc := 170) (a := (357 : Nat)) dX10_giveTurn_170 fl_X10_40 (by decide) rfl rfl ?_
              refine ab_aload_n (pc := 173) dX10_giveTurn_173 rfl rfl ?_
              refine xo_gr (pc := 174) (a := (1 : Nat)) dX10_giveTurn_174 fl_X10_12 (by decide) rfl rfl ?_
              refine ab_aload_n (pc := 177) dX10_giveTurn_177 rfl rfl ?_
              refine xo_gr (pc := 178) (a := (362 : Nat)) dX10_giveTurn_178 fl_X10_47 (by decide) rfl rfl ?_
              obtain ⟨o20, hD⟩ := hD
              have e21 := c_X8_takeTurn (tt := tt)  _ o20
              refine xo_invv (N := mX8_takeTurn) (pc := 181) (d' := 4) (av := [_, _]) dX10_giveTurn_181 ml_X10_225 fv_X8_takeTurn (by decide) (Nat.le_of_ble_eq_true rfl) (by decide) e21 ?_
              refine ab_goto (pc := 184) (tgt := 199) dX10_giveTurn_184 (by decide) ?_
              refine xo_vr (pc := 199) dX10_giveTurn_199 rfl ?_
              (rw [FX10_giveTurn]; (first | rw [if_pos c_11] | (dsimp only; rw [if_pos c_11])); (first | rw [if_neg c_35] | (dsimp only; rw [if_neg c_35])); (first | rw [if_neg c_60] | (dsimp only; rw [if_neg c_60])); (first | rw [if_neg c_65] | (dsimp only; rw [if_neg c_65])); (first | rw [if_pos c_86] | (dsimp only; rw [if_pos c_86])); (first | rw [if_neg (fun h => absurd (c_91.symm.trans h) (by decide))] | (dsimp only; rw [if_neg (fun h => absurd (c_91.symm.trans h) (by decide))])); (first | rw [if_neg (fun h => absurd (c_91.symm.trans h) (by decide))] | (dsimp only; rw [if_neg (fun h => absurd (c_91.symm.trans h) (by decide))])); (first | rw [if_neg (fun h => absurd (c_91.symm.trans h) (by decide))] | (dsimp only; rw [if_neg (fun h => absurd (c_91.symm.trans h) (by decide))])); (first | rw [if_pos c_91] | (dsimp only; rw [if_pos c_91])); (first | done | rfl | (dsimp only; done)))
            · replace hD := hD.2.2.2.2 c_91
              refine ab_aload_n (pc := 187) dX10_giveTurn_187 rfl rfl ?_
              refine xo_gr (pc := 188) (a := (362 : Nat)) dX10_giveTurn_188 fl_X10_47 (by decide) rfl rfl ?_
              refine ab_aload_n (pc := 191) dX10_giveTurn_191 rfl rfl ?_
              refine xo_gr (pc := 192) (a := (1 : Nat)) dX10_giveTurn_192 fl_X10_12 (by decide) rfl rfl ?_
              refine ab_iload_n (pc := 195) dX10_giveTurn_195 rfl rfl ?_
              obtain ⟨o23, hD⟩ := hD
              have e24 := c_X9_takeTurn (tt := tt) _ _ o23
              refine xo_invv (N := mX9_takeTurn) (pc := 196) (d' := 1) (av := [_, _]) dX10_giveTurn_196 ml_X10_228 fv_X9_takeTurn (by decide) (Nat.le_of_ble_eq_true rfl) (by decide) e24 ?_
              refine xo_vr (pc := 199) dX10_giveTurn_199 rfl ?_
              (rw [FX10_giveTurn]; (first | rw [if_pos c_11] | (dsimp only; rw [if_pos c_11])); (first | rw [if_neg c_35] | (dsimp only; rw [if_neg c_35])); (first | rw [if_neg c_60] | (dsimp only; rw [if_neg c_60])); (first | rw [if_neg c_65] | (dsimp only; rw [if_neg c_65])); (first | rw [if_pos c_86] | (dsimp only; rw [if_pos c_86])); (first | rw [if_neg (c_91 _ (List.mem_of_getElem? (i := 0) rfl))] | (dsimp only; rw [if_neg (c_91 _ (List.mem_of_getElem? (i := 0) rfl))])); (first | rw [if_neg (c_91 _ (List.mem_of_getElem? (i := 1) rfl))] | (dsimp only; rw [if_neg (c_91 _ (List.mem_of_getElem? (i := 1) rfl))])); (first | rw [if_neg (c_91 _ (List.mem_of_getElem? (i := 2) rfl))] | (dsimp only; rw [if_neg (c_91 _ (List.mem_of_getElem? (i := 2) rfl))])); (first | rw [if_neg (c_91 _ (List.mem_of_getElem? (i := 3) rfl))] | (dsimp only; rw [if_neg (c_91 _ (List.mem_of_getElem? (i := 3) rfl))])); (first | done | rfl | (dsimp only; done)))
          · refine xo_vr (pc := 89) dX10_giveTurn_89 rfl ?_
            (rw [FX10_giveTurn]; (first | rw [if_pos c_11] | (dsimp only; rw [if_pos c_11])); (first | rw [if_neg c_35] | (dsimp only; rw [if_neg c_35])); (first | rw [if_neg c_60] | (dsimp only; rw [if_neg c_60])); (first | rw [if_neg c_65] | (dsimp only; rw [if_neg c_65])); (first | rw [if_neg c_86] | (dsimp only; rw [if_neg c_86])); (first | done | rfl | (dsimp only; done)))
        · replace hD := hD.1 c_65
          refine ab_aload_n (pc := 68) dX10_giveTurn_68 rfl rfl ?_
          refine xo_gr (pc := 69) (a := (344 : Nat)) dX10_giveTurn_69 fl_X10_26 (by decide) rfl rfl ?_
          refine xo_gi (pc := 72) dX10_giveTurn_72 fl_X10_86 (by decide) rfl ?_
          refine ab_if_ne (pc := 75) (tgt := 89) dX10_giveTurn_75 (by decide) (fun c_75 => ?_) (fun c_75 => ?_)
          · refine xo_vr (pc := 89) dX10_giveTurn_89 rfl ?_
            (rw [FX10_giveTurn]; (first | rw [if_pos c_11] | (dsimp only; rw [if_pos c_11])); (first | rw [if_neg c_35] | (dsimp only; rw [if_neg c_35])); (first | rw [if_neg c_60] | (dsimp only; rw [if_neg c_60])); (first | rw [if_pos c_65] | (dsimp only; rw [if_pos c_65])); (first | rw [if_neg c_75] | (dsimp only; rw [if_neg c_75])); (first | done | rfl | (dsimp only; done)))
          · replace hD := hD.1 c_75
            refine ab_aload_n (pc := 78) dX10_giveTurn_78 rfl rfl ?_
            refine xo_gr (pc := 79) (a := (1 : Nat)) dX10_giveTurn_79 fl_X10_12 (by decide) rfl rfl ?_
            refine ab_iload_n (pc := 82) dX10_giveTurn_82 rfl rfl ?_
            obtain ⟨o26, hD⟩ := hD
            have e27 := c_X1_sendHeld (tt := tt) _ _ o26
            refine xo_invi (N := mX1_sendHeld) (pc := 83) (d' := 2) (av := [_]) dX10_giveTurn_83 ml_X10_214 fv_X1_sendHeld (by decide) (Nat.le_of_ble_eq_true rfl) (by decide) e27 ?_
            refine ab_if_eq (pc := 86) (tgt := 90) dX10_giveTurn_86 (by decide) (fun c_86 => ?_) (fun c_86 => ?_)
            · replace hD := hD.1 c_86
              refine ab_iload_n (pc := 90) dX10_giveTurn_90 rfl rfl ?_
              refine ab_tsw (pc := 91) [(0, 120), (1, 141), (2, 155), (3, 169)] 187 dX10_giveTurn_91 (by decide +kernel) (ab_c1 (fun c_91 => ?_) (ab_c1 (fun c_91 => ?_) (ab_c1 (fun c_91 => ?_) (ab_c1 (fun c_91 => ?_) (ab_c0))))) (fun c_91 => ?_)
              · replace hD := hD.1 c_91
                refine ab_aload_n (pc := 120) dX10_giveTurn_120 rfl rfl ?_
                refine xo_gr (pc := 121) (a := (343 : Nat)) dX10_giveTurn_121 fl_X10_19 (by decide) rfl rfl ?_
                refine ab_aload_n (pc := 124) dX10_giveTurn_124 rfl rfl ?_
                refine xo_gr (pc := 125) (a := (1 : Nat)) dX10_giveTurn_125 fl_X10_12 (by decide) rfl rfl ?_
                obtain ⟨o29, hD⟩ := hD
                have e30 := c_X5_takeTurn (tt := tt)  _ o29
                refine xo_invi (N := mX5_takeTurn) (pc := 128) (d' := 4) (av := [_]) dX10_giveTurn_128 ml_X10_217 fv_X5_takeTurn (by decide) (Nat.le_of_ble_eq_true rfl) (by decide) e30 ?_
                refine ab_if_eq (pc := 131) (tgt := 199) dX10_giveTurn_131 (by decide) (fun c_131 => ?_) (fun c_131 => ?_)
                · refine xo_vr (pc := 199) dX10_giveTurn_199 rfl ?_
                  (rw [FX10_giveTurn]; (first | rw [if_pos c_11] | (dsimp only; rw [if_pos c_11])); (first | rw [if_neg c_35] | (dsimp only; rw [if_neg c_35])); (first | rw [if_neg c_60] | (dsimp only; rw [if_neg c_60])); (first | rw [if_pos c_65] | (dsimp only; rw [if_pos c_65])); (first | rw [if_pos c_75] | (dsimp only; rw [if_pos c_75])); (first | rw [if_pos c_86] | (dsimp only; rw [if_pos c_86])); (first | rw [if_pos c_91] | (dsimp only; rw [if_pos c_91])); (first | rw [if_pos c_131] | (dsimp only; rw [if_pos c_131])); (first | done | rfl | (dsimp only; done)))
                · replace hD := hD.2 c_131
                  refine ab_aload_n (pc := 134) dX10_giveTurn_134 rfl rfl ?_
                  obtain ⟨o32, hD⟩ := hD
                  have e33 := c_X10_breakDriver (tt := tt)  _ o32
                  refine xo_invv (N := mX10_breakDriver) (pc := 135) (d' := 2) (av := []) dX10_giveTurn_135 ml_X10_83 fv_X10_breakDriver (by decide) (Nat.le_of_ble_eq_true rfl) (by decide) e33 ?_
                  refine ab_goto (pc := 138) (tgt := 199) dX10_giveTurn_138 (by decide) ?_
                  refine xo_vr (pc := 199) dX10_giveTurn_199 rfl ?_
                  (rw [FX10_giveTurn]; (first | rw [if_pos c_11] | (dsimp only; rw [if_pos c_11])); (first | rw [if_neg c_35] | (dsimp only; rw [if_neg c_35])); (first | rw [if_neg c_60] | (dsimp only; rw [if_neg c_60])); (first | rw [if_pos c_65] | (dsimp only; rw [if_pos c_65])); (first | rw [if_pos c_75] | (dsimp only; rw [if_pos c_75])); (first | rw [if_pos c_86] | (dsimp only; rw [if_pos c_86])); (first | rw [if_pos c_91] | (dsimp only; rw [if_pos c_91])); (first | rw [if_neg c_131] | (dsimp only; rw [if_neg c_131])); (first | done | rfl | (dsimp only; done)))
              · replace hD := hD.2.1 c_91
                refine ab_aload_n (pc := 141) dX10_giveTurn_141 rfl rfl ?_
                refine xo_gr (pc := 142) (a := (344 : Nat)) dX10_giveTurn_142 fl_X10_26 (by decide) rfl rfl ?_
                refine ab_aload_n (pc := 145) dX10_giveTurn_145 rfl rfl ?_
                refine xo_gr (pc := 146) (a := (1 : Nat)) dX10_giveTurn_146 fl_X10_12 (by decide) rfl rfl ?_
                obtain ⟨o35, hD⟩ := hD
                have e36 := c_X2_takeTurn (tt := tt)  _ o35
                refine xo_invv (N := mX2_takeTurn) (pc := 149) (d' := 3) (av := [_]) dX10_giveTurn_149 ml_X10_221 fv_X2_takeTurn (by decide) (Nat.le_of_ble_eq_true rfl) (by decide) e36 ?_
                refine ab_goto (pc := 152) (tgt := 199) dX10_giveTurn_152 (by decide) ?_
                refine xo_vr (pc := 199) dX10_giveTurn_199 rfl ?_
                (rw [FX10_giveTurn]; (first | rw [if_pos c_11] | (dsimp only; rw [if_pos c_11])); (first | rw [if_neg c_35] | (dsimp only; rw [if_neg c_35])); (first | rw [if_neg c_60] | (dsimp only; rw [if_neg c_60])); (first | rw [if_pos c_65] | (dsimp only; rw [if_pos c_65])); (first | rw [if_pos c_75] | (dsimp only; rw [if_pos c_75])); (first | rw [if_pos c_86] | (dsimp only; rw [if_pos c_86])); (first | rw [if_neg (fun h => absurd (c_91.symm.trans h) (by decide))] | (dsimp only; rw [if_neg (fun h => absurd (c_91.symm.trans h) (by decide))])); (first | rw [if_pos c_91] | (dsimp only; rw [if_pos c_91])); (first | done | rfl | (dsimp only; done)))
              · replace hD := hD.2.2.1 c_91
                refine ab_aload_n (pc := 155) dX10_giveTurn_155 rfl rfl ?_
                refine xo_gr (pc := 156) (a := (347 : Nat)) dX10_giveTurn_156 fl_X10_33 (by decide) rfl rfl ?_
                refine ab_aload_n (pc := 159) dX10_giveTurn_159 rfl rfl ?_
                refine xo_gr (pc := 160) (a := (1 : Nat)) dX10_giveTurn_160 fl_X10_12 (by decide) rfl rfl ?_
                obtain ⟨o38, hD⟩ := hD
                have e39 := c_X3_takeTurn (tt := tt)  _ o38
                refine xo_invv (N := mX3_takeTurn) (pc := 163) (d' := 4) (av := [_]) dX10_giveTurn_163 ml_X10_224 fv_X3_takeTurn (by decide) (Nat.le_of_ble_eq_true rfl) (by decide) e39 ?_
                refine ab_goto (pc := 166) (tgt := 199) dX10_giveTurn_166 (by decide) ?_
                refine xo_vr (pc := 199) dX10_giveTurn_199 rfl ?_
                (rw [FX10_giveTurn]; (first | rw [if_pos c_11] | (dsimp only; rw [if_pos c_11])); (first | rw [if_neg c_35] | (dsimp only; rw [if_neg c_35])); (first | rw [if_neg c_60] | (dsimp only; rw [if_neg c_60])); (first | rw [if_pos c_65] | (dsimp only; rw [if_pos c_65])); (first | rw [if_pos c_75] | (dsimp only; rw [if_pos c_75])); (first | rw [if_pos c_86] | (dsimp only; rw [if_pos c_86])); (first | rw [if_neg (fun h => absurd (c_91.symm.trans h) (by decide))] | (dsimp only; rw [if_neg (fun h => absurd (c_91.symm.trans h) (by decide))])); (first | rw [if_neg (fun h => absurd (c_91.symm.trans h) (by decide))] | (dsimp only; rw [if_neg (fun h => absurd (c_91.symm.trans h) (by decide))])); (first | rw [if_pos c_91] | (dsimp only; rw [if_pos c_91])); (first | done | rfl | (dsimp only; done)))
              · replace hD := hD.2.2.2.1 c_91
                refine ab_aload_n (pc := 169) dX10_giveTurn_169 rfl rfl ?_
                refine xo_gr (pc := 170) (a := (357 : Nat)) dX10_giveTurn_170 fl_X10_40 (by decide) rfl rfl ?_
                refine ab_aload_n (pc := 173) dX10_giveTurn_173 rfl rfl ?_
                refine xo_gr (pc := 174) (a := (1 : Nat)) dX10_giveTurn_174 fl_X10_12 (by decide) rfl rfl ?_
                refine ab_aload_n (pc := 177) dX10_giveTurn_177 rfl rfl ?_
                refine xo_gr (pc := 178) (a := (362 : Nat)) dX10_giveTurn_178 fl_X10_47 (by decide) rfl rfl ?_
                obtain ⟨o41, hD⟩ := hD
                have e42 := c_X8_takeTurn (tt := tt)  _ o41
                refine xo_invv (N := mX8_takeTurn) (pc := 181) (d' := 4) (av := [_, _]) dX10_giveTurn_181 ml_X10_225 fv_X8_takeTurn (by decide) (Nat.le_of_ble_eq_true rfl) (by decide) e42 ?_
                refine ab_goto (pc := 184) (tgt := 199) dX10_giveTurn_184 (by decide) ?_
                refine xo_vr (pc := 199) dX10_giveTurn_199 rfl ?_
                (rw [FX10_giveTurn]; (first | rw [if_pos c_11] | (dsimp only; rw [if_pos c_11])); (first | rw [if_neg c_35] | (dsimp only; rw [if_neg c_35])); (first | rw [if_neg c_60] | (dsimp only; rw [if_neg c_60])); (first | rw [if_pos c_65] | (dsimp only; rw [if_pos c_65])); (first | rw [if_pos c_75] | (dsimp only; rw [if_pos c_75])); (first | rw [if_pos c_86] | (dsimp only; rw [if_pos c_86])); (first | rw [if_neg (fun h => absurd (c_91.symm.trans h) (by decide))] | (dsimp only; rw [if_neg (fun h => absurd (c_91.symm.trans h) (by decide))])); (first | rw [if_neg (fun h => absurd (c_91.symm.trans h) (by decide))] | (dsimp only; rw [if_neg (fun h => absurd (c_91.symm.trans h) (by decide))])); (first | rw [if_neg (fun h => absurd (c_91.symm.trans h) (by decide))] | (dsimp only; rw [if_neg (fun h => absurd (c_91.symm.trans h) (by decide))])); (first | rw [if_pos c_91] | (dsimp only; rw [if_pos c_91])); (first | done | rfl | (dsimp only; done)))
              · replace hD := hD.2.2.2.2 c_91
                refine ab_aload_n (pc := 187) dX10_giveTurn_187 rfl rfl ?_
                refine xo_gr (pc := 188) (a := (362 : Nat)) dX10_giveTurn_188 fl_X10_47 (by decide) rfl rfl ?_
                refine ab_aload_n (pc := 191) dX10_giveTurn_191 rfl rfl ?_
                refine xo_gr (pc := 192) (a := (1 : Nat)) dX10_giveTurn_192 fl_X10_12 (by decide) rfl rfl ?_
                refine ab_iload_n (pc := 195) dX10_giveTurn_195 rfl rfl ?_
                obtain ⟨o44, hD⟩ := hD
                have e45 := c_X9_takeTurn (tt := tt) _ _ o44
                refine xo_invv (N := mX9_takeTurn) (pc := 196) (d' := 1) (av := [_, _]) dX10_giveTurn_196 ml_X10_228 fv_X9_takeTurn (by decide) (Nat.le_of_ble_eq_true rfl) (by decide) e45 ?_
                refine xo_vr (pc := 199) dX10_giveTurn_199 rfl ?_
                (rw [FX10_giveTurn]; (first | rw [if_pos c_11] | (dsimp only; rw [if_pos c_11])); (first | rw [if_neg c_35] | (dsimp only; rw [if_neg c_35])); (first | rw [if_neg c_60] | (dsimp only; rw [if_neg c_60])); (first | rw [if_pos c_65] | (dsimp only; rw [if_pos c_65])); (first | rw [if_pos c_75] | (dsimp only; rw [if_pos c_75])); (first | rw [if_pos c_86] | (dsimp only; rw [if_pos c_86])); (first | rw [if_neg (c_91 _ (List.mem_of_getElem? (i := 0) rfl))] | (dsimp only; rw [if_neg (c_91 _ (List.mem_of_getElem? (i := 0) rfl))])); (first | rw [if_neg (c_91 _ (List.mem_of_getElem? (i := 1) rfl))] | (dsimp only; rw [if_neg (c_91 _ (List.mem_of_getElem? (i := 1) rfl))])); (first | rw [if_neg (c_91 _ (List.mem_of_getElem? (i := 2) rfl))] | (dsimp only; rw [if_neg (c_91 _ (List.mem_of_getElem? (i := 2) rfl))])); (first | rw [if_neg (c_91 _ (List.mem_of_getElem? (i := 3) rfl))] | (dsimp only; rw [if_neg (c_91 _ (List.mem_of_getElem? (i := 3) rfl))])); (first | done | rfl | (dsimp only; done)))
            · refine xo_vr (pc := 89) dX10_giveTurn_89 rfl ?_
              (rw [FX10_giveTurn]; (first | rw [if_pos c_11] | (dsimp only; rw [if_pos c_11])); (first | rw [if_neg c_35] | (dsimp only; rw [if_neg c_35])); (first | rw [if_neg c_60] | (dsimp only; rw [if_neg c_60])); (first | rw [if_pos c_65] | (dsimp only; rw [if_pos c_65])); (first | rw [if_pos c_75] | (dsimp only; rw [if_pos c_75])); (first | rw [if_neg c_86] | (dsimp only; rw [if_neg c_86])); (first | done | rfl | (dsimp only; done)))
    · replace hD := hD.1 c_35
      refine ab_aload_n (pc := 38) dX10_giveTurn_38 rfl rfl ?_
      refine xo_gr (pc := 39) (a := (343 : Nat)) dX10_giveTurn_39 fl_X10_19 (by decide) rfl rfl ?_
      refine ab_dup (pc := 42) dX10_giveTurn_42 rfl ?_
      refine xo_gi (pc := 43) dX10_giveTurn_43 fl_X10_211 (by decide) rfl ?_
      refine ab_iconst (pc := 46) (v := nI 1) dX10_giveTurn_46 (by decide) ?_
      refine ab_iadd (pc := 47) dX10_giveTurn_47 ?_
      refine xo_pi (pc := 48) dX10_giveTurn_48 fl_X10_211 (by decide) rfl (fun _ _ _ h => Or.inl (by cases h; rfl)) (ab_ok_i _) ?_
      refine ab_aload_n (pc := 51) dX10_giveTurn_51 rfl rfl ?_
      refine xo_gr (pc := 52) (a := (1 : Nat)) dX10_giveTurn_52 fl_X10_12 (by decide) rfl rfl ?_
      refine xo_gr (pc := 55) (a := (3 : Nat)) dX10_giveTurn_55 fl_X10_65 (by decide) rfl rfl ?_
      refine ab_iload_n (pc := 58) dX10_giveTurn_58 rfl rfl ?_
      obtain ⟨o48, hD⟩ := hD
      refine ab_nat1 (ab_nat o48) ?_
      obtain ⟨o49, hD⟩ := hD
      refine xo_zld (pc := 59) dX10_giveTurn_59 (by decide) rfl o49 (by decide) ?_
      refine ab_if_eq (pc := 60) (tgt := 89) dX10_giveTurn_60 (by decide) (fun c_60 => ?_) (fun c_60 => ?_)
      · refine xo_vr (pc := 89) dX10_giveTurn_89 rfl ?_
        (rw [FX10_giveTurn]; (first | rw [if_pos c_11] | (dsimp only; rw [if_pos c_11])); (first | rw [if_pos c_35] | (dsimp only; rw [if_pos c_35])); (first | rw [if_pos c_60] | (dsimp only; rw [if_pos c_60])); (first | done | rfl | (dsimp only; done)))
      · replace hD := hD.2 c_60
        refine ab_iload_n (pc := 63) dX10_giveTurn_63 rfl rfl ?_
        refine ab_iconst (pc := 64) (v := nI 1) dX10_giveTurn_64 (by decide) ?_
        refine ab_icmp_ne (pc := 65) (tgt := 78) dX10_giveTurn_65 (by decide) (fun c_65 => ?_) (fun c_65 => ?_)
        · replace hD := hD.2 c_65
          refine ab_aload_n (pc := 78) dX10_giveTurn_78 rfl rfl ?_
          refine xo_gr (pc := 79) (a := (1 : Nat)) dX10_giveTurn_79 fl_X10_12 (by decide) rfl rfl ?_
          refine ab_iload_n (pc := 82) dX10_giveTurn_82 rfl rfl ?_
          obtain ⟨o50, hD⟩ := hD
          have e51 := c_X1_sendHeld (tt := tt) _ _ o50
          refine xo_invi (N := mX1_sendHeld) (pc := 83) (d' := 2) (av := [_]) dX10_giveTurn_83 ml_X10_214 fv_X1_sendHeld (by decide) (Nat.le_of_ble_eq_true rfl) (by decide) e51 ?_
          refine ab_if_eq (pc := 86) (tgt := 90) dX10_giveTurn_86 (by decide) (fun c_86 => ?_) (fun c_86 => ?_)
          · replace hD := hD.1 c_86
            refine ab_iload_n (pc := 90) dX10_giveTurn_90 rfl rfl ?_
            refine ab_tsw (pc := 91) [(0, 120), (1, 141), (2, 155), (3, 169)] 187 dX10_giveTurn_91 (by decide +kernel) (ab_c1 (fun c_91 => ?_) (ab_c1 (fun c_91 => ?_) (ab_c1 (fun c_91 => ?_) (ab_c1 (fun c_91 => ?_) (ab_c0))))) (fun c_91 => ?_)
            · replace hD := hD.1 c_91
              refine ab_aload_n (pc := 120) dX10_giveTurn_120 rfl rfl ?_
              refine xo_gr (pc := 121) (a := (343 : Nat)) dX10_giveTurn_121 fl_X10_19 (by decide) rfl rfl ?_
              refine ab_aload_n (pc := 124) dX10_giveTurn_124 rfl rfl ?_
              refine xo_gr (pc := 125) (a := (1 : Nat)) dX10_giveTurn_125 fl_X10_12 (by decide) rfl rfl ?_
              obtain ⟨o53, hD⟩ := hD
              have e54 := c_X5_takeTurn (tt := tt)  _ o53
              refine xo_invi (N := mX5_takeTurn) (pc := 128) (d' := 4) (av := [_]) dX10_giveTurn_128 ml_X10_217 fv_X5_takeTurn (by decide) (Nat.le_of_ble_eq_true rfl) (by decide) e54 ?_
              refine ab_if_eq (pc := 131) (tgt := 199) dX10_giveTurn_131 (by decide) (fun c_131 => ?_) (fun c_131 => ?_)
              · refine xo_vr (pc := 199) dX10_giveTurn_199 rfl ?_
                (rw [FX10_giveTurn]; (first | rw [if_pos c_11] | (dsimp only; rw [if_pos c_11])); (first | rw [if_pos c_35] | (dsimp only; rw [if_pos c_35])); (first | rw [if_neg c_60] | (dsimp only; rw [if_neg c_60])); (first | rw [if_neg c_65] | (dsimp only; rw [if_neg c_65])); (first | rw [if_pos c_86] | (dsimp only; rw [if_pos c_86])); (first | rw [if_pos c_91] | (dsimp only; rw [if_pos c_91])); (first | rw [if_pos c_131] | (dsimp only; rw [if_pos c_131])); (first | done | rfl | (dsimp only; done)))
              · replace hD := hD.2 c_131
                refine ab_aload_n (pc := 134) dX10_giveTurn_134 rfl rfl ?_
                obtain ⟨o56, hD⟩ := hD
                have e57 := c_X10_breakDriver (tt := tt)  _ o56
                refine xo_invv (N := mX10_breakDriver) (pc := 135) (d' := 2) (av := []) dX10_giveTurn_135 ml_X10_83 fv_X10_breakDriver (by decide) (Nat.le_of_ble_eq_true rfl) (by decide) e57 ?_
                refine ab_goto (pc := 138) (tgt := 199) dX10_giveTurn_138 (by decide) ?_
                refine xo_vr (pc := 199) dX10_giveTurn_199 rfl ?_
                (rw [FX10_giveTurn]; (first | rw [if_pos c_11] | (dsimp only; rw [if_pos c_11])); (first | rw [if_pos c_35] | (dsimp only; rw [if_pos c_35])); (first | rw [if_neg c_60] | (dsimp only; rw [if_neg c_60])); (first | rw [if_neg c_65] | (dsimp only; rw [if_neg c_65])); (first | rw [if_pos c_86] | (dsimp only; rw [if_pos c_86])); (first | rw [if_pos c_91] | (dsimp only; rw [if_pos c_91])); (first | rw [if_neg c_131] | (dsimp only; rw [if_neg c_131])); (first | done | rfl | (dsimp only; done)))
            · replace hD := hD.2.1 c_91
              refine ab_aload_n (pc := 141) dX10_giveTurn_141 rfl rfl ?_
              refine xo_gr (pc := 142) (a := (344 : Nat)) dX10_giveTurn_142 fl_X10_26 (by decide) rfl rfl ?_
              refine ab_aload_n (pc := 145) dX10_giveTurn_145 rfl rfl ?_
              refine xo_gr (pc := 146) (a := (1 : Nat)) dX10_giveTurn_146 fl_X10_12 (by decide) rfl rfl ?_
              obtain ⟨o59, hD⟩ := hD
              have e60 := c_X2_takeTurn (tt := tt)  _ o59
              refine xo_invv (N := mX2_takeTurn) (pc := 149) (d' := 3) (av := [_]) dX10_giveTurn_149 ml_X10_221 fv_X2_takeTurn (by decide) (Nat.le_of_ble_eq_true rfl) (by decide) e60 ?_
              refine ab_goto (pc := 152) (tgt := 199) dX10_giveTurn_152 (by decide) ?_
              refine xo_vr (pc := 199) dX10_giveTurn_199 rfl ?_
              (rw [FX10_giveTurn]; (first | rw [if_pos c_11] | (dsimp only; rw [if_pos c_11])); (first | rw [if_pos c_35] | (dsimp only; rw [if_pos c_35])); (first | rw [if_neg c_60] | (dsimp only; rw [if_neg c_60])); (first | rw [if_neg c_65] | (dsimp only; rw [if_neg c_65])); (first | rw [if_pos c_86] | (dsimp only; rw [if_pos c_86])); (first | rw [if_neg (fun h => absurd (c_91.symm.trans h) (by decide))] | (dsimp only; rw [if_neg (fun h => absurd (c_91.symm.trans h) (by decide))])); (first | rw [if_pos c_91] | (dsimp only; rw [if_pos c_91])); (first | done | rfl | (dsimp only; done)))
            · replace hD := hD.2.2.1 c_91
              refine ab_aload_n (pc := 155) dX10_giveTurn_155 rfl rfl ?_
              refine xo_gr (pc := 156) (a := (347 : Nat)) dX10_giveTurn_156 fl_X10_33 (by decide) rfl rfl ?_
              refine ab_aload_n (pc := 159) dX10_giveTurn_159 rfl rfl ?_
              refine xo_gr (pc := 160) (a := (1 : Nat)) dX10_giveTurn_160 fl_X10_12 (by decide) rfl rfl ?_
              obtain ⟨o62, hD⟩ := hD
              have e63 := c_X3_takeTurn (tt := tt)  _ o62
              refine xo_invv (N := mX3_takeTurn) (pc := 163) (d' := 4) (av := [_]) dX10_giveTurn_163 ml_X10_224 fv_X3_takeTurn (by decide) (Nat.le_of_ble_eq_true rfl) (by decide) e63 ?_
              refine ab_goto (pc := 166) (tgt := 199) dX10_giveTurn_166 (by decide) ?_
              refine xo_vr (pc := 199) dX10_giveTurn_199 rfl ?_
              (rw [FX10_giveTurn]; (first | rw [if_pos c_11] | (dsimp only; rw [if_pos c_11])); (first | rw [if_pos c_35] | (dsimp only; rw [if_pos c_35])); (first | rw [if_neg c_60] | (dsimp only; rw [if_neg c_60])); (first | rw [if_neg c_65] | (dsimp only; rw [if_neg c_65])); (first | rw [if_pos c_86] | (dsimp only; rw [if_pos c_86])); (first | rw [if_neg (fun h => absurd (c_91.symm.trans h) (by decide))] | (dsimp only; rw [if_neg (fun h => absurd (c_91.symm.trans h) (by decide))])); (first | rw [if_neg (fun h => absurd (c_91.symm.trans h) (by decide))] | (dsimp only; rw [if_neg (fun h => absurd (c_91.symm.trans h) (by decide))])); (first | rw [if_pos c_91] | (dsimp only; rw [if_pos c_91])); (first | done | rfl | (dsimp only; done)))
            · replace hD := hD.2.2.2.1 c_91
              refine ab_aload_n (pc := 169) dX10_giveTurn_169 rfl rfl ?_
              refine xo_gr (pc := 170) (a := (357 : Nat)) dX10_giveTurn_170 fl_X10_40 (by decide) rfl rfl ?_
              refine ab_aload_n (pc := 173) dX10_giveTurn_173 rfl rfl ?_
              refine xo_gr (pc := 174) (a := (1 : Nat)) dX10_giveTurn_174 fl_X10_12 (by decide) rfl rfl ?_
              refine ab_aload_n (pc := 177) dX10_giveTurn_177 rfl rfl ?_
              refine xo_gr (pc := 178) (a := (362 : Nat)) dX10_giveTurn_178 fl_X10_47 (by decide) rfl rfl ?_
              obtain ⟨o65, hD⟩ := hD
              have e66 := c_X8_takeTurn (tt := tt)  _ o65
              refine xo_invv (N := mX8_takeTurn) (pc := 181) (d' := 4) (av := [_, _]) dX10_giveTurn_181 ml_X10_225 fv_X8_takeTurn (by decide) (Nat.le_of_ble_eq_true rfl) (by decide) e66 ?_
              refine ab_goto (pc := 184) (tgt := 199) dX10_giveTurn_184 (by decide) ?_
              refine xo_vr (pc := 199) dX10_giveTurn_199 rfl ?_
              (rw [FX10_giveTurn]; (first | rw [if_pos c_11] | (dsimp only; rw [if_pos c_11])); (first | rw [if_pos c_35] | (dsimp only; rw [if_pos c_35])); (first | rw [if_neg c_60] | (dsimp only; rw [if_neg c_60])); (first | rw [if_neg c_65] | (dsimp only; rw [if_neg c_65])); (first | rw [if_pos c_86] | (dsimp only; rw [if_pos c_86])); (first | rw [if_neg (fun h => absurd (c_91.symm.trans h) (by decide))] | (dsimp only; rw [if_neg (fun h => absurd (c_91.symm.trans h) (by decide))])); (first | rw [if_neg (fun h => absurd (c_91.symm.trans h) (by decide))] | (dsimp only; rw [if_neg (fun h => absurd (c_91.symm.trans h) (by decide))])); (first | rw [if_neg (fun h => absurd (c_91.symm.trans h) (by decide))] | (dsimp only; rw [if_neg (fun h => absurd (c_91.symm.trans h) (by decide))])); (first | rw [if_pos c_91] | (dsimp only; rw [if_pos c_91])); (first | done | rfl | (dsimp only; done)))
            · replace hD := hD.2.2.2.2 c_91
              refine ab_aload_n (pc := 187) dX10_giveTurn_187 rfl rfl ?_
              refine xo_gr (pc := 188) (a := (362 : Nat)) dX10_giveTurn_188 fl_X10_47 (by decide) rfl rfl ?_
              refine ab_aload_n (pc := 191) dX10_giveTurn_191 rfl rfl ?_
              refine xo_gr (pc := 192) (a := (1 : Nat)) dX10_giveTurn_192 fl_X10_12 (by decide) rfl rfl ?_
              refine ab_iload_n (pc := 195) dX10_giveTurn_195 rfl rfl ?_
              obtain ⟨o68, hD⟩ := hD
              have e69 := c_X9_takeTurn (tt := tt) _ _ o68
              refine xo_invv (N := mX9_takeTurn) (pc := 196) (d' := 1) (av := [_, _]) dX10_giveTurn_196 ml_X10_228 fv_X9_takeTurn (by decide) (Nat.le_of_ble_eq_true rfl) (by decide) e69 ?_
              refine xo_vr (pc := 199) dX10_giveTurn_199 rfl ?_
              (rw [FX10_giveTurn]; (first | rw [if_pos c_11] | (dsimp only; rw [if_pos c_11])); (first | rw [if_pos c_35] | (dsimp only; rw [if_pos c_35])); (first | rw [if_neg c_60] | (dsimp only; rw [if_neg c_60])); (first | rw [if_neg c_65] | (dsimp only; rw [if_neg c_65])); (first | rw [if_pos c_86] | (dsimp only; rw [if_pos c_86])); (first | rw [if_neg (c_91 _ (List.mem_of_getElem? (i := 0) rfl))] | (dsimp only; rw [if_neg (c_91 _ (List.mem_of_getElem? (i := 0) rfl))])); (first | rw [if_neg (c_91 _ (List.mem_of_getElem? (i := 1) rfl))] | (dsimp only; rw [if_neg (c_91 _ (List.mem_of_getElem? (i := 1) rfl))])); (first | rw [if_neg (c_91 _ (List.mem_of_getElem? (i := 2) rfl))] | (dsimp only; rw [if_neg (c_91 _ (List.mem_of_getElem? (i := 2) rfl))])); (first | rw [if_neg (c_91 _ (List.mem_of_getElem? (i := 3) rfl))] | (dsimp only; rw [if_neg (c_91 _ (List.mem_of_getElem? (i := 3) rfl))])); (first | done | rfl | (dsimp only; done)))
          · refine xo_vr (pc := 89) dX10_giveTurn_89 rfl ?_
            (rw [FX10_giveTurn]; (first | rw [if_pos c_11] | (dsimp only; rw [if_pos c_11])); (first | rw [if_pos c_35] | (dsimp only; rw [if_pos c_35])); (first | rw [if_neg c_60] | (dsimp only; rw [if_neg c_60])); (first | rw [if_neg c_65] | (dsimp only; rw [if_neg c_65])); (first | rw [if_neg c_86] | (dsimp only; rw [if_neg c_86])); (first | done | rfl | (dsimp only; done)))
        · replace hD := hD.1 c_65
          refine ab_aload_n (pc := 68) dX10_giveTurn_68 rfl rfl ?_
          refine xo_gr (pc := 69) (a := (344 : Nat)) dX10_giveTurn_69 fl_X10_26 (by decide) rfl rfl ?_
          refine xo_gi (pc := 72) dX10_giveTurn_72 fl_X10_86 (by decide) rfl ?_
          refine ab_if_ne (pc := 75) (tgt := 89) dX10_giveTurn_75 (by decide) (fun c_75 => ?_) (fun c_75 => ?_)
          · refine xo_vr (pc := 89) dX10_giveTurn_89 rfl ?_
            (rw [FX10_giveTurn]; (first | rw [if_pos c_11] | (dsimp only; rw [if_pos c_11])); (first | rw [if_pos c_35] | (dsimp only; rw [if_pos c_35])); (first | rw [if_neg c_60] | (dsimp only; rw [if_neg c_60])); (first | rw [if_pos c_65] | (dsimp only; rw [if_pos c_65])); (first | rw [if_neg c_75] | (dsimp only; rw [if_neg c_75])); (first | done | rfl | (dsimp only; done)))
          · replace hD := hD.1 c_75
            refine ab_aload_n (pc := 78) dX10_giveTurn_78 rfl rfl ?_
            refine xo_gr (pc := 79) (a := (1 : Nat)) dX10_giveTurn_79 fl_X10_12 (by decide) rfl rfl ?_
            refine ab_iload_n (pc := 82) dX10_giveTurn_82 rfl rfl ?_
            obtain ⟨o71, hD⟩ := hD
            have e72 := c_X1_sendHeld (tt := tt) _ _ o71
            refine xo_invi (N := mX1_sendHeld) (pc := 83) (d' := 2) (av := [_]) dX10_giveTurn_83 ml_X10_214 fv_X1_sendHeld (by decide) (Nat.le_of_ble_eq_true rfl) (by decide) e72 ?_
            refine ab_if_eq (pc := 86) (tgt := 90) dX10_giveTurn_86 (by decide) (fun c_86 => ?_) (fun c_86 => ?_)
            · replace hD := hD.1 c_86
              refine ab_iload_n (pc := 90) dX10_giveTurn_90 rfl rfl ?_
              refine ab_tsw (pc := 91) [(0, 120), (1, 141), (2, 155), (3, 169)] 187 dX10_giveTurn_91 (by decide +kernel) (ab_c1 (fun c_91 => ?_) (ab_c1 (fun c_91 => ?_) (ab_c1 (fun c_91 => ?_) (ab_c1 (fun c_91 => ?_) (ab_c0))))) (fun c_91 => ?_)
              · replace hD := hD.1 c_91
                refine ab_aload_n (pc := 120) dX10_giveTurn_120 rfl rfl ?_
                refine xo_gr (pc := 121) (a := (343 : Nat)) dX10_giveTurn_121 fl_X10_19 (by decide) rfl rfl ?_
                refine ab_aload_n (pc := 124) dX10_giveTurn_124 rfl rfl ?_
                refine xo_gr (pc := 125) (a := (1 : Nat)) dX10_giveTurn_125 fl_X10_12 (by decide) rfl rfl ?_
                obtain ⟨o74, hD⟩ := hD
                have e75 := c_X5_takeTurn (tt := tt)  _ o74
                refine xo_invi (N := mX5_takeTurn) (pc := 128) (d' := 4) (av := [_]) dX10_giveTurn_128 ml_X10_217 fv_X5_takeTurn (by decide) (Nat.le_of_ble_eq_true rfl) (by decide) e75 ?_
                refine ab_if_eq (pc := 131) (tgt := 199) dX10_giveTurn_131 (by decide) (fun c_131 => ?_) (fun c_131 => ?_)
                · refine xo_vr (pc := 199) dX10_giveTurn_199 rfl ?_
                  (rw [FX10_giveTurn]; (first | rw [if_pos c_11] | (dsimp only; rw [if_pos c_11])); (first | rw [if_pos c_35] | (dsimp only; rw [if_pos c_35])); (first | rw [if_neg c_60] | (dsimp only; rw [if_neg c_60])); (first | rw [if_pos c_65] | (dsimp only; rw [if_pos c_65])); (first | rw [if_pos c_75] | (dsimp only; rw [if_pos c_75])); (first | rw [if_pos c_86] | (dsimp only; rw [if_pos c_86])); (first | rw [if_pos c_91] | (dsimp only; rw [if_pos c_91])); (first | rw [if_pos c_131] | (dsimp only; rw [if_pos c_131])); (first | done | rfl | (dsimp only; done)))
                · replace hD := hD.2 c_131
                  refine ab_aload_n (pc := 134) dX10_giveTurn_134 rfl rfl ?_
                  obtain ⟨o77, hD⟩ := hD
                  have e78 := c_X10_breakDriver (tt := tt)  _ o77
                  refine xo_invv (N := mX10_breakDriver) (pc := 135) (d' := 2) (av := []) dX10_giveTurn_135 ml_X10_83 fv_X10_breakDriver (by decide) (Nat.le_of_ble_eq_true rfl) (by decide) e78 ?_
                  refine ab_goto (pc := 138) (tgt := 199) dX10_giveTurn_138 (by decide) ?_
                  refine xo_vr (pc := 199) dX10_giveTurn_199 rfl ?_
                  (rw [FX10_giveTurn]; (first | rw [if_pos c_11] | (dsimp only; rw [if_pos c_11])); (first | rw [if_pos c_35] | (dsimp only; rw [if_pos c_35])); (first | rw [if_neg c_60] | (dsimp only; rw [if_neg c_60])); (first | rw [if_pos c_65] | (dsimp only; rw [if_pos c_65])); (first | rw [if_pos c_75] | (dsimp only; rw [if_pos c_75])); (first | rw [if_pos c_86] | (dsimp only; rw [if_pos c_86])); (first | rw [if_pos c_91] | (dsimp only; rw [if_pos c_91])); (first | rw [if_neg c_131] | (dsimp only; rw [if_neg c_131])); (first | done | rfl | (dsimp only; done)))
              · replace hD := hD.2.1 c_91
                refine ab_aload_n (pc := 141) dX10_giveTurn_141 rfl rfl ?_
                refine xo_gr (pc := 142) (a := (344 : Nat)) dX10_giveTurn_142 fl_X10_26 (by decide) rfl rfl ?_
                refine ab_aload_n (pc := 145) dX10_giveTurn_145 rfl rfl ?_
                refine xo_gr (pc := 146) (a := (1 : Nat)) dX10_giveTurn_146 fl_X10_12 (by decide) rfl rfl ?_
                obtain ⟨o80, hD⟩ := hD
                have e81 := c_X2_takeTurn (tt := tt)  _ o80
                refine xo_invv (N := mX2_takeTurn) (pc := 149) (d' := 3) (av := [_]) dX10_giveTurn_149 ml_X10_221 fv_X2_takeTurn (by decide) (Nat.le_of_ble_eq_true rfl) (by decide) e81 ?_
                refine ab_goto (pc := 152) (tgt := 199) dX10_giveTurn_152 (by decide) ?_
                refine xo_vr (pc := 199) dX10_giveTurn_199 rfl ?_
                (rw [FX10_giveTurn]; (first | rw [if_pos c_11] | (dsimp only; rw [if_pos c_11])); (first | rw [if_pos c_35] | (dsimp only; rw [if_pos c_35])); (first | rw [if_neg c_60] | (dsimp only; rw [if_neg c_60])); (first | rw [if_pos c_65] | (dsimp only; rw [if_pos c_65])); (first | rw [if_pos c_75] | (dsimp only; rw [if_pos c_75])); (first | rw [if_pos c_86] | (dsimp only; rw [if_pos c_86])); (first | rw [if_neg (fun h => absurd (c_91.symm.trans h) (by decide))] | (dsimp only; rw [if_neg (fun h => absurd (c_91.symm.trans h) (by decide))])); (first | rw [if_pos c_91] | (dsimp only; rw [if_pos c_91])); (first | done | rfl | (dsimp only; done)))
              · replace hD := hD.2.2.1 c_91
                refine ab_aload_n (pc := 155) dX10_giveTurn_155 rfl rfl ?_
                refine xo_gr (pc := 156) (a := (347 : Nat)) dX10_giveTurn_156 fl_X10_33 (by decide) rfl rfl ?_
                refine ab_aload_n (pc := 159) dX10_giveTurn_159 rfl rfl ?_
                refine xo_gr (pc := 160) (a := (1 : Nat)) dX10_giveTurn_160 fl_X10_12 (by decide) rfl rfl ?_
                obtain ⟨o83, hD⟩ := hD
                have e84 := c_X3_takeTurn (tt := tt)  _ o83
                refine xo_invv (N := mX3_takeTurn) (pc := 163) (d' := 4) (av := [_]) dX10_giveTurn_163 ml_X10_224 fv_X3_takeTurn (by decide) (Nat.le_of_ble_eq_true rfl) (by decide) e84 ?_
                refine ab_goto (pc := 166) (tgt := 199) dX10_giveTurn_166 (by decide) ?_
                refine xo_vr (pc := 199) dX10_giveTurn_199 rfl ?_
                (rw [FX10_giveTurn]; (first | rw [if_pos c_11] | (dsimp only; rw [if_pos c_11])); (first | rw [if_pos c_35] | (dsimp only; rw [if_pos c_35])); (first | rw [if_neg c_60] | (dsimp only; rw [if_neg c_60])); (first | rw [if_pos c_65] | (dsimp only; rw [if_pos c_65])); (first | rw [if_pos c_75] | (dsimp only; rw [if_pos c_75])); (first | rw [if_pos c_86] | (dsimp only; rw [if_pos c_86])); (first | rw [if_neg (fun h => absurd (c_91.symm.trans h) (by decide))] | (dsimp only; rw [if_neg (fun h => absurd (c_91.symm.trans h) (by decide))])); (first | rw [if_neg (fun h => absurd (c_91.symm.trans h) (by decide))] | (dsimp only; rw [if_neg (fun h => absurd (c_91.symm.trans h) (by decide))])); (first | rw [if_pos c_91] | (dsimp only; rw [if_pos c_91])); (first | done | rfl | (dsimp only; done)))
              · replace hD := hD.2.2.2.1 c_91
                refine ab_aload_n (pc := 169) dX10_giveTurn_169 rfl rfl ?_
                refine xo_gr (pc := 170) (a := (357 : Nat)) dX10_giveTurn_170 fl_X10_40 (by decide) rfl rfl ?_
                refine ab_aload_n (pc := 173) dX10_giveTurn_173 rfl rfl ?_
                refine xo_gr (pc := 174) (a := (1 : Nat)) dX10_giveTurn_174 fl_X10_12 (by decide) rfl rfl ?_
                refine ab_aload_n (pc := 177) dX10_giveTurn_177 rfl rfl ?_
                refine xo_gr (pc := 178) (a := (362 : Nat)) dX10_giveTurn_178 fl_X10_47 (by decide) rfl rfl ?_
                obtain ⟨o86, hD⟩ := hD
                have e87 := c_X8_takeTurn (tt := tt)  _ o86
                refine xo_invv (N := mX8_takeTurn) (pc := 181) (d' := 4) (av := [_, _]) dX10_giveTurn_181 ml_X10_225 fv_X8_takeTurn (by decide) (Nat.le_of_ble_eq_true rfl) (by decide) e87 ?_
                refine ab_goto (pc := 184) (tgt := 199) dX10_giveTurn_184 (by decide) ?_
                refine xo_vr (pc := 199) dX10_giveTurn_199 rfl ?_
                (rw [FX10_giveTurn]; (first | rw [if_pos c_11] | (dsimp only; rw [if_pos c_11])); (first | rw [if_pos c_35] | (dsimp only; rw [if_pos c_35])); (first | rw [if_neg c_60] | (dsimp only; rw [if_neg c_60])); (first | rw [if_pos c_65] | (dsimp only; rw [if_pos c_65])); (first | rw [if_pos c_75] | (dsimp only; rw [if_pos c_75])); (first | rw [if_pos c_86] | (dsimp only; rw [if_pos c_86])); (first | rw [if_neg (fun h => absurd (c_91.symm.trans h) (by decide))] | (dsimp only; rw [if_neg (fun h => absurd (c_91.symm.trans h) (by decide))])); (first | rw [if_neg (fun h => absurd (c_91.symm.trans h) (by decide))] | (dsimp only; rw [if_neg (fun h => absurd (c_91.symm.trans h) (by decide))])); (first | rw [if_neg (fun h => absurd (c_91.symm.trans h) (by decide))] | (dsimp only; rw [if_neg (fun h => absurd (c_91.symm.trans h) (by decide))])); (first | rw [if_pos c_91] | (dsimp only; rw [if_pos c_91])); (first | done | rfl | (dsimp only; done)))
              · replace hD := hD.2.2.2.2 c_91
                refine ab_aload_n (pc := 187) dX10_giveTurn_187 rfl rfl ?_
                refine xo_gr (pc := 188) (a := (362 : Nat)) dX10_giveTurn_188 fl_X10_47 (by decide) rfl rfl ?_
                refine ab_aload_n (pc := 191) dX10_giveTurn_191 rfl rfl ?_
                refine xo_gr (pc := 192) (a := (1 : Nat)) dX10_giveTurn_192 fl_X10_12 (by decide) rfl rfl ?_
                refine ab_iload_n (pc := 195) dX10_giveTurn_195 rfl rfl ?_
                obtain ⟨o89, hD⟩ := hD
                have e90 := c_X9_takeTurn (tt := tt) _ _ o89
                refine xo_invv (N := mX9_takeTurn) (pc := 196) (d' := 1) (av := [_, _]) dX10_giveTurn_196 ml_X10_228 fv_X9_takeTurn (by decide) (Nat.le_of_ble_eq_true rfl) (by decide) e90 ?_
                refine xo_vr (pc := 199) dX10_giveTurn_199 rfl ?_
                (rw [FX10_giveTurn]; (first | rw [if_pos c_11] | (dsimp only; rw [if_pos c_11])); (first | rw [if_pos c_35] | (dsimp only; rw [if_pos c_35])); (first | rw [if_neg c_60] | (dsimp only; rw [if_neg c_60])); (first | rw [if_pos c_65] | (dsimp only; rw [if_pos c_65])); (first | rw [if_pos c_75] | (dsimp only; rw [if_pos c_75])); (first | rw [if_pos c_86] | (dsimp only; rw [if_pos c_86])); (first | rw [if_neg (c_91 _ (List.mem_of_getElem? (i := 0) rfl))] | (dsimp only; rw [if_neg (c_91 _ (List.mem_of_getElem? (i := 0) rfl))])); (first | rw [if_neg (c_91 _ (List.mem_of_getElem? (i := 1) rfl))] | (dsimp only; rw [if_neg (c_91 _ (List.mem_of_getElem? (i := 1) rfl))])); (first | rw [if_neg (c_91 _ (List.mem_of_getElem? (i := 2) rfl))] | (dsimp only; rw [if_neg (c_91 _ (List.mem_of_getElem? (i := 2) rfl))])); (first | rw [if_neg (c_91 _ (List.mem_of_getElem? (i := 3) rfl))] | (dsimp only; rw [if_neg (c_91 _ (List.mem_of_getElem? (i := 3) rfl))])); (first | done | rfl | (dsimp only; done)))
            · refine xo_vr (pc := 89) dX10_giveTurn_89 rfl ?_
              (rw [FX10_giveTurn]; (first | rw [if_pos c_11] | (dsimp only; rw [if_pos c_11])); (first | rw [if_pos c_35] | (dsimp only; rw [if_pos c_35])); (first | rw [if_neg c_60] | (dsimp only; rw [if_neg c_60])); (first | rw [if_pos c_65] | (dsimp only; rw [if_pos c_65])); (first | rw [if_pos c_75] | (dsimp only; rw [if_pos c_75])); (first | rw [if_neg c_86] | (dsimp only; rw [if_neg c_86])); (first | done | rfl | (dsimp only; done)))
  · replace hD := hD.2 c_11
    refine ab_iload_n (pc := 14) dX10_giveTurn_14 rfl rfl ?_
    refine ab_iconst (pc := 15) (v := nI 1) dX10_giveTurn_15 (by decide) ?_
    refine ab_iadd (pc := 16) dX10_giveTurn_16 ?_
    refine ab_goto (pc := 17) (tgt := 21) dX10_giveTurn_17 (by decide) ?_
    refine xo_pi (pc := 21) dX10_giveTurn_21 fl_X10_55 (by decide) rfl (fun _ _ _ h => Or.inl (by cases h; rfl)) (ab_ok_i _) ?_
    refine ab_aload_n (pc := 24) dX10_giveTurn_24 rfl rfl ?_
    refine ab_dup (pc := 25) dX10_giveTurn_25 rfl ?_
    refine xo_gi (pc := 26) dX10_giveTurn_26 fl_X10_51 (by decide) rfl ?_
    refine ab_iconst (pc := 29) (v := nI 1) dX10_giveTurn_29 (by decide) ?_
    refine ab_iadd (pc := 30) dX10_giveTurn_30 ?_
    refine xo_pi (pc := 31) dX10_giveTurn_31 fl_X10_51 (by decide) rfl (fun _ _ _ h => Or.inl (by cases h; rfl)) (ab_ok_i _) ?_
    refine ab_iload_n (pc := 34) dX10_giveTurn_34 rfl rfl ?_
    refine ab_if_ne (pc := 35) (tgt := 51) dX10_giveTurn_35 (by decide) (fun c_35 => ?_) (fun c_35 => ?_)
    · replace hD := hD.2 c_35
      refine ab_aload_n (pc := 51) dX10_giveTurn_51 rfl rfl ?_
      refine xo_gr (pc := 52) (a := (1 : Nat)) dX10_giveTurn_52 fl_X10_12 (by decide) rfl rfl ?_
      refine xo_gr (pc := 55) (a := (3 : Nat)) dX10_giveTurn_55 fl_X10_65 (by decide) rfl rfl ?_
      refine ab_iload_n (pc := 58) dX10_giveTurn_58 rfl rfl ?_
      obtain ⟨o94, hD⟩ := hD
      refine ab_nat1 (ab_nat o94) ?_
      obtain ⟨o95, hD⟩ := hD
      refine xo_zld (pc := 59) dX10_giveTurn_59 (by decide) rfl o95 (by decide) ?_
      refine ab_if_eq (pc := 60) (tgt := 89) dX10_giveTurn_60 (by decide) (fun c_60 => ?_) (fun c_60 => ?_)
      · refine xo_vr (pc := 89) dX10_giveTurn_89 rfl ?_
        (rw [FX10_giveTurn]; (first | rw [if_neg c_11] | (dsimp only; rw [if_neg c_11])); (first | rw [if_neg c_35] | (dsimp only; rw [if_neg c_35])); (first | rw [if_pos c_60] | (dsimp only; rw [if_pos c_60])); (first | done | rfl | (dsimp only; done)))
      · replace hD := hD.2 c_60
        refine ab_iload_n (pc := 63) dX10_giveTurn_63 rfl rfl ?_
        refine ab_iconst (pc := 64) (v := nI 1) dX10_giveTurn_64 (by decide) ?_
        refine ab_icmp_ne (pc := 65) (tgt := 78) dX10_giveTurn_65 (by decide) (fun c_65 => ?_) (fun c_65 => ?_)
        · replace hD := hD.2 c_65
          refine ab_aload_n (pc := 78) dX10_giveTurn_78 rfl rfl ?_
          refine xo_gr (pc := 79) (a := (1 : Nat)) dX10_giveTurn_79 fl_X10_12 (by decide) rfl rfl ?_
          refine ab_iload_n (pc := 82) dX10_giveTurn_82 rfl rfl ?_
          obtain ⟨o96, hD⟩ := hD
          have e97 := c_X1_sendHeld (tt := tt) _ _ o96
          refine xo_invi (N := mX1_sendHeld) (pc := 83) (d' := 2) (av := [_]) dX10_giveTurn_83 ml_X10_214 fv_X1_sendHeld (by decide) (Nat.le_of_ble_eq_true rfl) (by decide) e97 ?_
          refine ab_if_eq (pc := 86) (tgt := 90) dX10_giveTurn_86 (by decide) (fun c_86 => ?_) (fun c_86 => ?_)
          · replace hD := hD.1 c_86
            refine ab_iload_n (pc := 90) dX10_giveTurn_90 rfl rfl ?_
            refine ab_tsw (pc := 91) [(0, 120), (1, 141), (2, 155), (3, 169)] 187 dX10_giveTurn_91 (by decide +kernel) (ab_c1 (fun c_91 => ?_) (ab_c1 (fun c_91 => ?_) (ab_c1 (fun c_91 => ?_) (ab_c1 (fun c_91 => ?_) (ab_c0))))) (fun c_91 => ?_)
            · replace hD := hD.1 c_91
              refine ab_aload_n (pc := 120) dX10_giveTurn_120 rfl rfl ?_
              refine xo_gr (pc := 121) (a := (343 : Nat)) dX10_giveTurn_121 fl_X10_19 (by decide) rfl rfl ?_
              refine ab_aload_n (pc := 124) dX10_giveTurn_124 rfl rfl ?_
              refine xo_gr (pc := 125) (a := (1 : Nat)) dX10_giveTurn_125 fl_X10_12 (by decide) rfl rfl ?_
              obtain ⟨o99, hD⟩ := hD
              have e100 := c_X5_takeTurn (tt := tt)  _ o99
              refine xo_invi (N := mX5_takeTurn) (pc := 128) (d' := 4) (av := [_]) dX10_giveTurn_128 ml_X10_217 fv_X5_takeTurn (by decide) (Nat.le_of_ble_eq_true rfl) (by decide) e100 ?_
              refine ab_if_eq (pc := 131) (tgt := 199) dX10_giveTurn_131 (by decide) (fun c_131 => ?_) (fun c_131 => ?_)
              · refine xo_vr (pc := 199) dX10_giveTurn_199 rfl ?_
                (rw [FX10_giveTurn]; (first | rw [if_neg c_11] | (dsimp only; rw [if_neg c_11])); (first | rw [if_neg c_35] | (dsimp only; rw [if_neg c_35])); (first | rw [if_neg c_60] | (dsimp only; rw [if_neg c_60])); (first | rw [if_neg c_65] | (dsimp only; rw [if_neg c_65])); (first | rw [if_pos c_86] | (dsimp only; rw [if_pos c_86])); (first | rw [if_pos c_91] | (dsimp only; rw [if_pos c_91])); (first | rw [if_pos c_131] | (dsimp only; rw [if_pos c_131])); (first | done | rfl | (dsimp only; done)))
              · replace hD := hD.2 c_131
                refine ab_aload_n (pc := 134) dX10_giveTurn_134 rfl rfl ?_
                obtain ⟨o102, hD⟩ := hD
                have e103 := c_X10_breakDriver (tt := tt)  _ o102
                refine xo_invv (N := mX10_breakDriver) (pc := 135) (d' := 2) (av := []) dX10_giveTurn_135 ml_X10_83 fv_X10_breakDriver (by decide) (Nat.le_of_ble_eq_true rfl) (by decide) e103 ?_
                refine ab_goto (pc := 138) (tgt := 199) dX10_giveTurn_138 (by decide) ?_
                refine xo_vr (pc := 199) dX10_giveTurn_199 rfl ?_
                (rw [FX10_giveTurn]; (first | rw [if_neg c_11] | (dsimp only; rw [if_neg c_11])); (first | rw [if_neg c_35] | (dsimp only; rw [if_neg c_35])); (first | rw [if_neg c_60] | (dsimp only; rw [if_neg c_60])); (first | rw [if_neg c_65] | (dsimp only; rw [if_neg c_65])); (first | rw [if_pos c_86] | (dsimp only; rw [if_pos c_86])); (first | rw [if_pos c_91] | (dsimp only; rw [if_pos c_91])); (first | rw [if_neg c_131] | (dsimp only; rw [if_neg c_131])); (first | done | rfl | (dsimp only; done)))
            · replace hD := hD.2.1 c_91
              refine ab_aload_n (pc := 141) dX10_giveTurn_141 rfl rfl ?_
              refine xo_gr (pc := 142) (a := (344 : Nat)) dX10_giveTurn_142 fl_X10_26 (by decide) rfl rfl ?_
              refine ab_aload_n (pc := 145) dX10_giveTurn_145 rfl rfl ?_
              refine xo_gr (pc := 146) (a := (1 : Nat)) dX10_giveTurn_146 fl_X10_12 (by decide) rfl rfl ?_
              obtain ⟨o105, hD⟩ := hD
              have e106 := c_X2_takeTurn (tt := tt)  _ o105
              refine xo_invv (N := mX2_takeTurn) (pc := 149) (d' := 3) (av := [_]) dX10_giveTurn_149 ml_X10_221 fv_X2_takeTurn (by decide) (Nat.le_of_ble_eq_true rfl) (by decide) e106 ?_
              refine ab_goto (pc := 152) (tgt := 199) dX10_giveTurn_152 (by decide) ?_
              refine xo_vr (pc := 199) dX10_giveTurn_199 rfl ?_
              (rw [FX10_giveTurn]; (first | rw [if_neg c_11] | (dsimp only; rw [if_neg c_11])); (first | rw [if_neg c_35] | (dsimp only; rw [if_neg c_35])); (first | rw [if_neg c_60] | (dsimp only; rw [if_neg c_60])); (first | rw [if_neg c_65] | (dsimp only; rw [if_neg c_65])); (first | rw [if_pos c_86] | (dsimp only; rw [if_pos c_86])); (first | rw [if_neg (fun h => absurd (c_91.symm.trans h) (by decide))] | (dsimp only; rw [if_neg (fun h => absurd (c_91.symm.trans h) (by decide))])); (first | rw [if_pos c_91] | (dsimp only; rw [if_pos c_91])); (first | done | rfl | (dsimp only; done)))
            · replace hD := hD.2.2.1 c_91
              refine ab_aload_n (pc := 155) dX10_giveTurn_155 rfl rfl ?_
              refine xo_gr (pc := 156) (a := (347 : Nat)) dX10_giveTurn_156 fl_X10_33 (by decide) rfl rfl ?_
              refine ab_aload_n (pc := 159) dX10_giveTurn_159 rfl rfl ?_
              refine xo_gr (pc := 160) (a := (1 : Nat)) dX10_giveTurn_160 fl_X10_12 (by decide) rfl rfl ?_
              obtain ⟨o108, hD⟩ := hD
              have e109 := c_X3_takeTurn (tt := tt)  _ o108
              refine xo_invv (N := mX3_takeTurn) (pc := 163) (d' := 4) (av := [_]) dX10_giveTurn_163 ml_X10_224 fv_X3_takeTurn (by decide) (Nat.le_of_ble_eq_true rfl) (by decide) e109 ?_
              refine ab_goto (pc := 166) (tgt := 199) dX10_giveTurn_166 (by decide) ?_
              refine xo_vr (pc := 199) dX10_giveTurn_199 rfl ?_
              (rw [FX10_giveTurn]; (first | rw [if_neg c_11] | (dsimp only; rw [if_neg c_11])); (first | rw [if_neg c_35] | (dsimp only; rw [if_neg c_35])); (first | rw [if_neg c_60] | (dsimp only; rw [if_neg c_60])); (first | rw [if_neg c_65] | (dsimp only; rw [if_neg c_65])); (first | rw [if_pos c_86] | (dsimp only; rw [if_pos c_86])); (first | rw [if_neg (fun h => absurd (c_91.symm.trans h) (by decide))] | (dsimp only; rw [if_neg (fun h => absurd (c_91.symm.trans h) (by decide))])); (first | rw [if_neg (fun h => absurd (c_91.symm.trans h) (by decide))] | (dsimp only; rw [if_neg (fun h => absurd (c_91.symm.trans h) (by decide))])); (first | rw [if_pos c_91] | (dsimp only; rw [if_pos c_91])); (first | done | rfl | (dsimp only; done)))
            · replace hD := hD.2.2.2.1 c_91
              refine ab_aload_n (pc := 169) dX10_giveTurn_169 rfl rfl ?_
              refine xo_gr (pc := 170) (a := (357 : Nat)) dX10_giveTurn_170 fl_X10_40 (by decide) rfl rfl ?_
              refine ab_aload_n (pc := 173) dX10_giveTurn_173 rfl rfl ?_
              refine xo_gr (pc := 174) (a := (1 : Nat)) dX10_giveTurn_174 fl_X10_12 (by decide) rfl rfl ?_
              refine ab_aload_n (pc := 177) dX10_giveTurn_177 rfl rfl ?_
              refine xo_gr (pc := 178) (a := (362 : Nat)) dX10_giveTurn_178 fl_X10_47 (by decide) rfl rfl ?_
              obtain ⟨o111, hD⟩ := hD
              have e112 := c_X8_takeTurn (tt := tt)  _ o111
              refine xo_invv (N := mX8_takeTurn) (pc := 181) (d' := 4) (av := [_, _]) dX10_giveTurn_181 ml_X10_225 fv_X8_takeTurn (by decide) (Nat.le_of_ble_eq_true rfl) (by decide) e112 ?_
              refine ab_goto (pc := 184) (tgt := 199) dX10_giveTurn_184 (by decide) ?_
              refine xo_vr (pc := 199) dX10_giveTurn_199 rfl ?_
              (rw [FX10_giveTurn]; (first | rw [if_neg c_11] | (dsimp only; rw [if_neg c_11])); (first | rw [if_neg c_35] | (dsimp only; rw [if_neg c_35])); (first | rw [if_neg c_60] | (dsimp only; rw [if_neg c_60])); (first | rw [if_neg c_65] | (dsimp only; rw [if_neg c_65])); (first | rw [if_pos c_86] | (dsimp only; rw [if_pos c_86])); (first | rw [if_neg (fun h => absurd (c_91.symm.trans h) (by decide))] | (dsimp only; rw [if_neg (fun h => absurd (c_91.symm.trans h) (by decide))])); (first | rw [if_neg (fun h => absurd (c_91.symm.trans h) (by decide))] | (dsimp only; rw [if_neg (fun h => absurd (c_91.symm.trans h) (by decide))])); (first | rw [if_neg (fun h => absurd (c_91.symm.trans h) (by decide))] | (dsimp only; rw [if_neg (fun h => absurd (c_91.symm.trans h) (by decide))])); (first | rw [if_pos c_91] | (dsimp only; rw [if_pos c_91])); (first | done | rfl | (dsimp only; done)))
            · replace hD := hD.2.2.2.2 c_91
              refine ab_aload_n (pc := 187) dX10_giveTurn_187 rfl rfl ?_
              refine xo_gr (pc := 188) (a := (362 : Nat)) dX10_giveTurn_188 fl_X10_47 (by decide) rfl rfl ?_
              refine ab_aload_n (pc := 191) dX10_giveTurn_191 rfl rfl ?_
              refine xo_gr (pc := 192) (a := (1 : Nat)) dX10_giveTurn_192 fl_X10_12 (by decide) rfl rfl ?_
              refine ab_iload_n (pc := 195) dX10_giveTurn_195 rfl rfl ?_
              obtain ⟨o114, hD⟩ := hD
              have e115 := c_X9_takeTurn (tt := tt) _ _ o114
              refine xo_invv (N := mX9_takeTurn) (pc := 196) (d' := 1) (av := [_, _]) dX10_giveTurn_196 ml_X10_228 fv_X9_takeTurn (by decide) (Nat.le_of_ble_eq_true rfl) (by decide) e115 ?_
              refine xo_vr (pc := 199) dX10_giveTurn_199 rfl ?_
              (rw [FX10_giveTurn]; (first | rw [if_neg c_11] | (dsimp only; rw [if_neg c_11])); (first | rw [if_neg c_35] | (dsimp only; rw [if_neg c_35])); (first | rw [if_neg c_60] | (dsimp only; rw [if_neg c_60])); (first | rw [if_neg c_65] | (dsimp only; rw [if_neg c_65])); (first | rw [if_pos c_86] | (dsimp only; rw [if_pos c_86])); (first | rw [if_neg (c_91 _ (List.mem_of_getElem? (i := 0) rfl))] | (dsimp only; rw [if_neg (c_91 _ (List.mem_of_getElem? (i := 0) rfl))])); (first | rw [if_neg (c_91 _ (List.mem_of_getElem? (i := 1) rfl))] | (dsimp only; rw [if_neg (c_91 _ (List.mem_of_getElem? (i := 1) rfl))])); (first | rw [if_neg (c_91 _ (List.mem_of_getElem? (i := 2) rfl))] | (dsimp only; rw [if_neg (c_91 _ (List.mem_of_getElem? (i := 2) rfl))])); (first | rw [if_neg (c_91 _ (List.mem_of_getElem? (i := 3) rfl))] | (dsimp only; rw [if_neg (c_91 _ (List.mem_of_getElem? (i := 3) rfl))])); (first | done | rfl | (dsimp only; done)))
          · refine xo_vr (pc := 89) dX10_giveTurn_89 rfl ?_
            (rw [FX10_giveTurn]; (first | rw [if_neg c_11] | (dsimp only; rw [if_neg c_11])); (first | rw [if_neg c_35] | (dsimp only; rw [if_neg c_35])); (first | rw [if_neg c_60] | (dsimp only; rw [if_neg c_60])); (first | rw [if_neg c_65] | (dsimp only; rw [if_neg c_65])); (first | rw [if_neg c_86] | (dsimp only; rw [if_neg c_86])); (first | done | rfl | (dsimp only; done)))
        · replace hD := hD.1 c_65
          refine ab_aload_n (pc := 68) dX10_giveTurn_68 rfl rfl ?_
          refine xo_gr (pc := 69) (a := (344 : Nat)) dX10_giveTurn_69 fl_X10_26 (by decide) rfl rfl ?_
          refine xo_gi (pc := 72) dX10_giveTurn_72 fl_X10_86 (by decide) rfl ?_
          refine ab_if_ne (pc := 75) (tgt := 89) dX10_giveTurn_75 (by decide) (fun c_75 => ?_) (fun c_75 => ?_)
          · refine xo_vr (pc := 89) dX10_giveTurn_89 rfl ?_
            (rw [FX10_giveTurn]; (first | rw [if_neg c_11] | (dsimp only; rw [if_neg c_11])); (first | rw [if_neg c_35] | (dsimp only; rw [if_neg c_35])); (first | rw [if_neg c_60] | (dsimp only; rw [if_neg c_60])); (first | rw [if_pos c_65] | (dsimp only; rw [if_pos c_65])); (first | rw [if_neg c_75] | (dsimp only; rw [if_neg c_75])); (first | done | rfl | (dsimp only; done)))
          · replace hD := hD.1 c_75
            refine ab_aload_n (pc := 78) dX10_giveTurn_78 rfl rfl ?_
            refine xo_gr (pc := 79) (a := (1 : Nat)) dX10_giveTurn_79 fl_X10_12 (by decide) rfl rfl ?_
            refine ab_iload_n (pc := 82) dX10_giveTurn_82 rfl rfl ?_
            obtain ⟨o117, hD⟩ := hD
            have e118 := c_X1_sendHeld (tt := tt) _ _ o117
            refine xo_invi (N := mX1_sendHeld) (pc := 83) (d' := 2) (av := [_]) dX10_giveTurn_83 ml_X10_214 fv_X1_sendHeld (by decide) (Nat.le_of_ble_eq_true rfl) (by decide) e118 ?_
            refine ab_if_eq (pc := 86) (tgt := 90) dX10_giveTurn_86 (by decide) (fun c_86 => ?_) (fun c_86 => ?_)
            · replace hD := hD.1 c_86
              refine ab_iload_n (pc := 90) dX10_giveTurn_90 rfl rfl ?_
              refine ab_tsw (pc := 91) [(0, 120), (1, 141), (2, 155), (3, 169)] 187 dX10_giveTurn_91 (by decide +kernel) (ab_c1 (fun c_91 => ?_) (ab_c1 (fun c_91 => ?_) (ab_c1 (fun c_91 => ?_) (ab_c1 (fun c_91 => ?_) (ab_c0))))) (fun c_91 => ?_)
              · replace hD := hD.1 c_91
                refine ab_aload_n (pc := 120) dX10_giveTurn_120 rfl rfl ?_
                refine xo_gr (pc := 121) (a := (343 : Nat)) dX10_giveTurn_121 fl_X10_19 (by decide) rfl rfl ?_
                refine ab_aload_n (pc := 124) dX10_giveTurn_124 rfl rfl ?_
                refine xo_gr (pc := 125) (a := (1 : Nat)) dX10_giveTurn_125 fl_X10_12 (by decide) rfl rfl ?_
                obtain ⟨o120, hD⟩ := hD
                have e121 := c_X5_takeTurn (tt := tt)  _ o120
                refine xo_invi (N := mX5_takeTurn) (pc := 128) (d' := 4) (av := [_]) dX10_giveTurn_128 ml_X10_217 fv_X5_takeTurn (by decide) (Nat.le_of_ble_eq_true rfl) (by decide) e121 ?_
                refine ab_if_eq (pc := 131) (tgt := 199) dX10_giveTurn_131 (by decide) (fun c_131 => ?_) (fun c_131 => ?_)
                · refine xo_vr (pc := 199) dX10_giveTurn_199 rfl ?_
                  (rw [FX10_giveTurn]; (first | rw [if_neg c_11] | (dsimp only; rw [if_neg c_11])); (first | rw [if_neg c_35] | (dsimp only; rw [if_neg c_35])); (first | rw [if_neg c_60] | (dsimp only; rw [if_neg c_60])); (first | rw [if_pos c_65] | (dsimp only; rw [if_pos c_65])); (first | rw [if_pos c_75] | (dsimp only; rw [if_pos c_75])); (first | rw [if_pos c_86] | (dsimp only; rw [if_pos c_86])); (first | rw [if_pos c_91] | (dsimp only; rw [if_pos c_91])); (first | rw [if_pos c_131] | (dsimp only; rw [if_pos c_131])); (first | done | rfl | (dsimp only; done)))
                · replace hD := hD.2 c_131
                  refine ab_aload_n (pc := 134) dX10_giveTurn_134 rfl rfl ?_
                  obtain ⟨o123, hD⟩ := hD
                  have e124 := c_X10_breakDriver (tt := tt)  _ o123
                  refine xo_invv (N := mX10_breakDriver) (pc := 135) (d' := 2) (av := []) dX10_giveTurn_135 ml_X10_83 fv_X10_breakDriver (by decide) (Nat.le_of_ble_eq_true rfl) (by decide) e124 ?_
                  refine ab_goto (pc := 138) (tgt := 199) dX10_giveTurn_138 (by decide) ?_
                  refine xo_vr (pc := 199) dX10_giveTurn_199 rfl ?_
                  (rw [FX10_giveTurn]; (first | rw [if_neg c_11] | (dsimp only; rw [if_neg c_11])); (first | rw [if_neg c_35] | (dsimp only; rw [if_neg c_35])); (first | rw [if_neg c_60] | (dsimp only; rw [if_neg c_60])); (first | rw [if_pos c_65] | (dsimp only; rw [if_pos c_65])); (first | rw [if_pos c_75] | (dsimp only; rw [if_pos c_75])); (first | rw [if_pos c_86] | (dsimp only; rw [if_pos c_86])); (first | rw [if_pos c_91] | (dsimp only; rw [if_pos c_91])); (first | rw [if_neg c_131] | (dsimp only; rw [if_neg c_131])); (first | done | rfl | (dsimp only; done)))
              · replace hD := hD.2.1 c_91
                refine ab_aload_n (pc := 141) dX10_giveTurn_141 rfl rfl ?_
                refine xo_gr (pc := 142) (a := (344 : Nat)) dX10_giveTurn_142 fl_X10_26 (by decide) rfl rfl ?_
                refine ab_aload_n (pc := 145) dX10_giveTurn_145 rfl rfl ?_
                refine xo_gr (pc := 146) (a := (1 : Nat)) dX10_giveTurn_146 fl_X10_12 (by decide) rfl rfl ?_
                obtain ⟨o126, hD⟩ := hD
                have e127 := c_X2_takeTurn (tt := tt)  _ o126
                refine xo_invv (N := mX2_takeTurn) (pc := 149) (d' := 3) (av := [_]) dX10_giveTurn_149 ml_X10_221 fv_X2_takeTurn (by decide) (Nat.le_of_ble_eq_true rfl) (by decide) e127 ?_
                refine ab_goto (pc := 152) (tgt := 199) dX10_giveTurn_152 (by decide) ?_
                refine xo_vr (pc := 199) dX10_giveTurn_199 rfl ?_
                (rw [FX10_giveTurn]; (first | rw [if_neg c_11] | (dsimp only; rw [if_neg c_11])); (first | rw [if_neg c_35] | (dsimp only; rw [if_neg c_35])); (first | rw [if_neg c_60] | (dsimp only; rw [if_neg c_60])); (first | rw [if_pos c_65] | (dsimp only; rw [if_pos c_65])); (first | rw [if_pos c_75] | (dsimp only; rw [if_pos c_75])); (first | rw [if_pos c_86] | (dsimp only; rw [if_pos c_86])); (first | rw [if_neg (fun h => absurd (c_91.symm.trans h) (by decide))] | (dsimp only; rw [if_neg (fun h => absurd (c_91.symm.trans h) (by decide))])); (first | rw [if_pos c_91] | (dsimp only; rw [if_pos c_91])); (first | done | rfl | (dsimp only; done)))
              · replace hD := hD.2.2.1 c_91
                refine ab_aload_n (pc := 155) dX10_giveTurn_155 rfl rfl ?_
                refine xo_gr (pc := 156) (a := (347 : Nat)) dX10_giveTurn_156 fl_X10_33 (by decide) rfl rfl ?_
                refine ab_aload_n (pc := 159) dX10_giveTurn_159 rfl rfl ?_
                refine xo_gr (pc := 160) (a := (1 : Nat)) dX10_giveTurn_160 fl_X10_12 (by decide) rfl rfl ?_
                obtain ⟨o129, hD⟩ := hD
                have e130 := c_X3_takeTurn (tt := tt)  _ o129
                refine xo_invv (N := mX3_takeTurn) (pc := 163) (d' := 4) (av := [_]) dX10_giveTurn_163 ml_X10_224 fv_X3_takeTurn (by decide) (Nat.le_of_ble_eq_true rfl) (by decide) e130 ?_
                refine ab_goto (pc := 166) (tgt := 199) dX10_giveTurn_166 (by decide) ?_
                refine xo_vr (pc := 199) dX10_giveTurn_199 rfl ?_
                (rw [FX10_giveTurn]; (first | rw [if_neg c_11] | (dsimp only; rw [if_neg c_11])); (first | rw [if_neg c_35] | (dsimp only; rw [if_neg c_35])); (first | rw [if_neg c_60] | (dsimp only; rw [if_neg c_60])); (first | rw [if_pos c_65] | (dsimp only; rw [if_pos c_65])); (first | rw [if_pos c_75] | (dsimp only; rw [if_pos c_75])); (first | rw [if_pos c_86] | (dsimp only; rw [if_pos c_86])); (first | rw [if_neg (fun h => absurd (c_91.symm.trans h) (by decide))] | (dsimp only; rw [if_neg (fun h => absurd (c_91.symm.trans h) (by decide))])); (first | rw [if_neg (fun h => absurd (c_91.symm.trans h) (by decide))] | (dsimp only; rw [if_neg (fun h => absurd (c_91.symm.trans h) (by decide))])); (first | rw [if_pos c_91] | (dsimp only; rw [if_pos c_91])); (first | done | rfl | (dsimp only; done)))
              · replace hD := hD.2.2.2.1 c_91
                refine ab_aload_n (pc := 169) dX10_giveTurn_169 rfl rfl ?_
                refine xo_gr (pc := 170) (a := (357 : Nat)) dX10_giveTurn_170 fl_X10_40 (by decide) rfl rfl ?_
                refine ab_aload_n (pc := 173) dX10_giveTurn_173 rfl rfl ?_
                refine xo_gr (pc := 174) (a := (1 : Nat)) dX10_giveTurn_174 fl_X10_12 (by decide) rfl rfl ?_
                refine ab_aload_n (pc := 177) dX10_giveTurn_177 rfl rfl ?_
                refine xo_gr (pc := 178) (a := (362 : Nat)) dX10_giveTurn_178 fl_X10_47 (by decide) rfl rfl ?_
                obtain ⟨o132, hD⟩ := hD
                have e133 := c_X8_takeTurn (tt := tt)  _ o132
                refine xo_invv (N := mX8_takeTurn) (pc := 181) (d' := 4) (av := [_, _]) dX10_giveTurn_181 ml_X10_225 fv_X8_takeTurn (by decide) (Nat.le_of_ble_eq_true rfl) (by decide) e133 ?_
                refine ab_goto (pc := 184) (tgt := 199) dX10_giveTurn_184 (by decide) ?_
                refine xo_vr (pc := 199) dX10_giveTurn_199 rfl ?_
                (rw [FX10_giveTurn]; (first | rw [if_neg c_11] | (dsimp only; rw [if_neg c_11])); (first | rw [if_neg c_35] | (dsimp only; rw [if_neg c_35])); (first | rw [if_neg c_60] | (dsimp only; rw [if_neg c_60])); (first | rw [if_pos c_65] | (dsimp only; rw [if_pos c_65])); (first | rw [if_pos c_75] | (dsimp only; rw [if_pos c_75])); (first | rw [if_pos c_86] | (dsimp only; rw [if_pos c_86])); (first | rw [if_neg (fun h => absurd (c_91.symm.trans h) (by decide))] | (dsimp only; rw [if_neg (fun h => absurd (c_91.symm.trans h) (by decide))])); (first | rw [if_neg (fun h => absurd (c_91.symm.trans h) (by decide))] | (dsimp only; rw [if_neg (fun h => absurd (c_91.symm.trans h) (by decide))])); (first | rw [if_neg (fun h => absurd (c_91.symm.trans h) (by decide))] | (dsimp only; rw [if_neg (fun h => absurd (c_91.symm.trans h) (by decide))])); (first | rw [if_pos c_91] | (dsimp only; rw [if_pos c_91])); (first | done | rfl | (dsimp only; done)))
              · replace hD := hD.2.2.2.2 c_91
                refine ab_aload_n (pc := 187) dX10_giveTurn_187 rfl rfl ?_
                refine xo_gr (pc := 188) (a := (362 : Nat)) dX10_giveTurn_188 fl_X10_47 (by decide) rfl rfl ?_
                refine ab_aload_n (pc := 191) dX10_giveTurn_191 rfl rfl ?_
                refine xo_gr (pc := 192) (a := (1 : Nat)) dX10_giveTurn_192 fl_X10_12 (by decide) rfl rfl ?_
                refine ab_iload_n (pc := 195) dX10_giveTurn_195 rfl rfl ?_
                obtain ⟨o135, hD⟩ := hD
                have e136 := c_X9_takeTurn (tt := tt) _ _ o135
                refine xo_invv (N := mX9_takeTurn) (pc := 196) (d' := 1) (av := [_, _]) dX10_giveTurn_196 ml_X10_228 fv_X9_takeTurn (by decide) (Nat.le_of_ble_eq_true rfl) (by decide) e136 ?_
                refine xo_vr (pc := 199) dX10_giveTurn_199 rfl ?_
                (rw [FX10_giveTurn]; (first | rw [if_neg c_11] | (dsimp only; rw [if_neg c_11])); (first | rw [if_neg c_35] | (dsimp only; rw [if_neg c_35])); (first | rw [if_neg c_60] | (dsimp only; rw [if_neg c_60])); (first | rw [if_pos c_65] | (dsimp only; rw [if_pos c_65])); (first | rw [if_pos c_75] | (dsimp only; rw [if_pos c_75])); (first | rw [if_pos c_86] | (dsimp only; rw [if_pos c_86])); (first | rw [if_neg (c_91 _ (List.mem_of_getElem? (i := 0) rfl))] | (dsimp only; rw [if_neg (c_91 _ (List.mem_of_getElem? (i := 0) rfl))])); (first | rw [if_neg (c_91 _ (List.mem_of_getElem? (i := 1) rfl))] | (dsimp only; rw [if_neg (c_91 _ (List.mem_of_getElem? (i := 1) rfl))])); (first | rw [if_neg (c_91 _ (List.mem_of_getElem? (i := 2) rfl))] | (dsimp only; rw [if_neg (c_91 _ (List.mem_of_getElem? (i := 2) rfl))])); (first | rw [if_neg (c_91 _ (List.mem_of_getElem? (i := 3) rfl))] | (dsimp only; rw [if_neg (c_91 _ (List.mem_of_getElem? (i := 3) rfl))])); (first | done | rfl | (dsimp only; done)))
            · refine xo_vr (pc := 89) dX10_giveTurn_89 rfl ?_
              (rw [FX10_giveTurn]; (first | rw [if_neg c_11] | (dsimp only; rw [if_neg c_11])); (first | rw [if_neg c_35] | (dsimp only; rw [if_neg c_35])); (first | rw [if_neg c_60] | (dsimp only; rw [if_neg c_60])); (first | rw [if_pos c_65] | (dsimp only; rw [if_pos c_65])); (first | rw [if_pos c_75] | (dsimp only; rw [if_pos c_75])); (first | rw [if_neg c_86] | (dsimp only; rw [if_neg c_86])); (first | done | rfl | (dsimp only; done)))
    · replace hD := hD.1 c_35
      refine ab_aload_n (pc := 38) dX10_giveTurn_38 rfl rfl ?_
      refine xo_gr (pc := 39) (a := (343 : Nat)) dX10_giveTurn_39 fl_X10_19 (by decide) rfl rfl ?_
      refine ab_dup (pc := 42) dX10_giveTurn_42 rfl ?_
      refine xo_gi (pc := 43) dX10_giveTurn_43 fl_X10_211 (by decide) rfl ?_
      refine ab_iconst (pc := 46) (v := nI 1) dX10_giveTurn_46 (by decide) ?_
      refine ab_iadd (pc := 47) dX10_giveTurn_47 ?_
      refine xo_pi (pc := 48) dX10_giveTurn_48 fl_X10_211 (by decide) rfl (fun _ _ _ h => Or.inl (by cases h; rfl)) (ab_ok_i _) ?_
      refine ab_aload_n (pc := 51) dX10_giveTurn_51 rfl rfl ?_
      refine xo_gr (pc := 52) (a := (1 : Nat)) dX10_giveTurn_52 fl_X10_12 (by decide) rfl rfl ?_
      refine xo_gr (pc := 55) (a := (3 : Nat)) dX10_giveTurn_55 fl_X10_65 (by decide) rfl rfl ?_
      refine ab_iload_n (pc := 58) dX10_giveTurn_58 rfl rfl ?_
      obtain ⟨o139, hD⟩ := hD
      refine ab_nat1 (ab_nat o139) ?_
      obtain ⟨o140, hD⟩ := hD
      refine xo_zld (pc := 59) dX10_giveTurn_59 (by decide) rfl o140 (by decide) ?_
      refine ab_if_eq (pc := 60) (tgt := 89) dX10_giveTurn_60 (by decide) (fun c_60 => ?_) (fun c_60 => ?_)
      · refine xo_vr (pc := 89) dX10_giveTurn_89 rfl ?_
        (rw [FX10_giveTurn]; (first | rw [if_neg c_11] | (dsimp only; rw [if_neg c_11])); (first | rw [if_pos c_35] | (dsimp only; rw [if_pos c_35])); (first | rw [if_pos c_60] | (dsimp only; rw [if_pos c_60])); (first | done | rfl | (dsimp only; done)))
      · replace hD := hD.2 c_60
        refine ab_iload_n (pc := 63) dX10_giveTurn_63 rfl rfl ?_
        refine ab_iconst (pc := 64) (v := nI 1) dX10_giveTurn_64 (by decide) ?_
        refine ab_icmp_ne (pc := 65) (tgt := 78) dX10_giveTurn_65 (by decide) (fun c_65 => ?_) (fun c_65 => ?_)
        · replace hD := hD.2 c_65
          refine ab_aload_n (pc := 78) dX10_giveTurn_78 rfl rfl ?_
          refine xo_gr (pc := 79) (a := (1 : Nat)) dX10_giveTurn_79 fl_X10_12 (by decide) rfl rfl ?_
          refine ab_iload_n (pc := 82) dX10_giveTurn_82 rfl rfl ?_
          obtain ⟨o141, hD⟩ := hD
          have e142 := c_X1_sendHeld (tt := tt) _ _ o141
          refine xo_invi (N := mX1_sendHeld) (pc := 83) (d' := 2) (av := [_]) dX10_giveTurn_83 ml_X10_214 fv_X1_sendHeld (by decide) (Nat.le_of_ble_eq_true rfl) (by decide) e142 ?_
          refine ab_if_eq (pc := 86) (tgt := 90) dX10_giveTurn_86 (by decide) (fun c_86 => ?_) (fun c_86 => ?_)
          · replace hD := hD.1 c_86
            refine ab_iload_n (pc := 90) dX10_giveTurn_90 rfl rfl ?_
            refine ab_tsw (pc := 91) [(0, 120), (1, 141), (2, 155), (3, 169)] 187 dX10_giveTurn_91 (by decide +kernel) (ab_c1 (fun c_91 => ?_) (ab_c1 (fun c_91 => ?_) (ab_c1 (fun c_91 => ?_) (ab_c1 (fun c_91 => ?_) (ab_c0))))) (fun c_91 => ?_)
            · replace hD := hD.1 c_91
              refine ab_aload_n (pc := 120) dX10_giveTurn_120 rfl rfl ?_
              refine xo_gr (pc := 121) (a := (343 : Nat)) dX10_giveTurn_121 fl_X10_19 (by decide) rfl rfl ?_
              refine ab_aload_n (pc := 124) dX10_giveTurn_124 rfl rfl ?_
              refine xo_gr (pc := 125) (a := (1 : Nat)) dX10_giveTurn_125 fl_X10_12 (by decide) rfl rfl ?_
              obtain ⟨o144, hD⟩ := hD
              have e145 := c_X5_takeTurn (tt := tt)  _ o144
              refine xo_invi (N := mX5_takeTurn) (pc := 128) (d' := 4) (av := [_]) dX10_giveTurn_128 ml_X10_217 fv_X5_takeTurn (by decide) (Nat.le_of_ble_eq_true rfl) (by decide) e145 ?_
              refine ab_if_eq (pc := 131) (tgt := 199) dX10_giveTurn_131 (by decide) (fun c_131 => ?_) (fun c_131 => ?_)
              · refine xo_vr (pc := 199) dX10_giveTurn_199 rfl ?_
                (rw [FX10_giveTurn]; (first | rw [if_neg c_11] | (dsimp only; rw [if_neg c_11])); (first | rw [if_pos c_35] | (dsimp only; rw [if_pos c_35])); (first | rw [if_neg c_60] | (dsimp only; rw [if_neg c_60])); (first | rw [if_neg c_65] | (dsimp only; rw [if_neg c_65])); (first | rw [if_pos c_86] | (dsimp only; rw [if_pos c_86])); (first | rw [if_pos c_91] | (dsimp only; rw [if_pos c_91])); (first | rw [if_pos c_131] | (dsimp only; rw [if_pos c_131])); (first | done | rfl | (dsimp only; done)))
              · replace hD := hD.2 c_131
                refine ab_aload_n (pc := 134) dX10_giveTurn_134 rfl rfl ?_
                obtain ⟨o147, hD⟩ := hD
                have e148 := c_X10_breakDriver (tt := tt)  _ o147
                refine xo_invv (N := mX10_breakDriver) (pc := 135) (d' := 2) (av := []) dX10_giveTurn_135 ml_X10_83 fv_X10_breakDriver (by decide) (Nat.le_of_ble_eq_true rfl) (by decide) e148 ?_
                refine ab_goto (pc := 138) (tgt := 199) dX10_giveTurn_138 (by decide) ?_
                refine xo_vr (pc := 199) dX10_giveTurn_199 rfl ?_
                (rw [FX10_giveTurn]; (first | rw [if_neg c_11] | (dsimp only; rw [if_neg c_11])); (first | rw [if_pos c_35] | (dsimp only; rw [if_pos c_35])); (first | rw [if_neg c_60] | (dsimp only; rw [if_neg c_60])); (first | rw [if_neg c_65] | (dsimp only; rw [if_neg c_65])); (first | rw [if_pos c_86] | (dsimp only; rw [if_pos c_86])); (first | rw [if_pos c_91] | (dsimp only; rw [if_pos c_91])); (first | rw [if_neg c_131] | (dsimp only; rw [if_neg c_131])); (first | done | rfl | (dsimp only; done)))
            · replace hD := hD.2.1 c_91
              refine ab_aload_n (pc := 141) dX10_giveTurn_141 rfl rfl ?_
              refine xo_gr (pc := 142) (a := (344 : Nat)) dX10_giveTurn_142 fl_X10_26 (by decide) rfl rfl ?_
              refine ab_aload_n (pc := 145) dX10_giveTurn_145 rfl rfl ?_
              refine xo_gr (pc := 146) (a := (1 : Nat)) dX10_giveTurn_146 fl_X10_12 (by decide) rfl rfl ?_
              obtain ⟨o150, hD⟩ := hD
              have e151 := c_X2_takeTurn (tt := tt)  _ o150
              refine xo_invv (N := mX2_takeTurn) (pc := 149) (d' := 3) (av := [_]) dX10_giveTurn_149 ml_X10_221 fv_X2_takeTurn (by decide) (Nat.le_of_ble_eq_true rfl) (by decide) e151 ?_
              refine ab_goto (pc := 152) (tgt := 199) dX10_giveTurn_152 (by decide) ?_
              refine xo_vr (pc := 199) dX10_giveTurn_199 rfl ?_
              (rw [FX10_giveTurn]; (first | rw [if_neg c_11] | (dsimp only; rw [if_neg c_11])); (first | rw [if_pos c_35] | (dsimp only; rw [if_pos c_35])); (first | rw [if_neg c_60] | (dsimp only; rw [if_neg c_60])); (first | rw [if_neg c_65] | (dsimp only; rw [if_neg c_65])); (first | rw [if_pos c_86] | (dsimp only; rw [if_pos c_86])); (first | rw [if_neg (fun h => absurd (c_91.symm.trans h) (by decide))] | (dsimp only; rw [if_neg (fun h => absurd (c_91.symm.trans h) (by decide))])); (first | rw [if_pos c_91] | (dsimp only; rw [if_pos c_91])); (first | done | rfl | (dsimp only; done)))
            · replace hD := hD.2.2.1 c_91
              refine ab_aload_n (pc := 155) dX10_giveTurn_155 rfl rfl ?_
              refine xo_gr (pc := 156) (a := (347 : Nat)) dX10_giveTurn_156 fl_X10_33 (by decide) rfl rfl ?_
              refine ab_aload_n (pc := 159) dX10_giveTurn_159 rfl rfl ?_
              refine xo_gr (pc := 160) (a := (1 : Nat)) dX10_giveTurn_160 fl_X10_12 (by decide) rfl rfl ?_
              obtain ⟨o153, hD⟩ := hD
              have e154 := c_X3_takeTurn (tt := tt)  _ o153
              refine xo_invv (N := mX3_takeTurn) (pc := 163) (d' := 4) (av := [_]) dX10_giveTurn_163 ml_X10_224 fv_X3_takeTurn (by decide) (Nat.le_of_ble_eq_true rfl) (by decide) e154 ?_
              refine ab_goto (pc := 166) (tgt := 199) dX10_giveTurn_166 (by decide) ?_
              refine xo_vr (pc := 199) dX10_giveTurn_199 rfl ?_
              (rw [FX10_giveTurn]; (first | rw [if_neg c_11] | (dsimp only; rw [if_neg c_11])); (first | rw [if_pos c_35] | (dsimp only; rw [if_pos c_35])); (first | rw [if_neg c_60] | (dsimp only; rw [if_neg c_60])); (first | rw [if_neg c_65] | (dsimp only; rw [if_neg c_65])); (first | rw [if_pos c_86] | (dsimp only; rw [if_pos c_86])); (first | rw [if_neg (fun h => absurd (c_91.symm.trans h) (by decide))] | (dsimp only; rw [if_neg (fun h => absurd (c_91.symm.trans h) (by decide))])); (first | rw [if_neg (fun h => absurd (c_91.symm.trans h) (by decide))] | (dsimp only; rw [if_neg (fun h => absurd (c_91.symm.trans h) (by decide))])); (first | rw [if_pos c_91] | (dsimp only; rw [if_pos c_91])); (first | done | rfl | (dsimp only; done)))
            · replace hD := hD.2.2.2.1 c_91
              refine ab_aload_n (pc := 169) dX10_giveTurn_169 rfl rfl ?_
              refine xo_gr (pc := 170) (a := (357 : Nat)) dX10_giveTurn_170 fl_X10_40 (by decide) rfl rfl ?_
              refine ab_aload_n (pc := 173) dX10_giveTurn_173 rfl rfl ?_
              refine xo_gr (pc := 174) (a := (1 : Nat)) dX10_giveTurn_174 fl_X10_12 (by decide) rfl rfl ?_
              refine ab_aload_n (pc := 177) dX10_giveTurn_177 rfl rfl ?_
              refine xo_gr (pc := 178) (a := (362 : Nat)) dX10_giveTurn_178 fl_X10_47 (by decide) rfl rfl ?_
              obtain ⟨o156, hD⟩ := hD
              have e157 := c_X8_takeTurn (tt := tt)  _ o156
              refine xo_invv (N := mX8_takeTurn) (pc := 181) (d' := 4) (av := [_, _]) dX10_giveTurn_181 ml_X10_225 fv_X8_takeTurn (by decide) (Nat.le_of_ble_eq_true rfl) (by decide) e157 ?_
              refine ab_goto (pc := 184) (tgt := 199) dX10_giveTurn_184 (by decide) ?_
              refine xo_vr (pc := 199) dX10_giveTurn_199 rfl ?_
              (rw [FX10_giveTurn]; (first | rw [if_neg c_11] | (dsimp only; rw [if_neg c_11])); (first | rw [if_pos c_35] | (dsimp only; rw [if_pos c_35])); (first | rw [if_neg c_60] | (dsimp only; rw [if_neg c_60])); (first | rw [if_neg c_65] | (dsimp only; rw [if_neg c_65])); (first | rw [if_pos c_86] | (dsimp only; rw [if_pos c_86])); (first | rw [if_neg (fun h => absurd (c_91.symm.trans h) (by decide))] | (dsimp only; rw [if_neg (fun h => absurd (c_91.symm.trans h) (by decide))])); (first | rw [if_neg (fun h => absurd (c_91.symm.trans h) (by decide))] | (dsimp only; rw [if_neg (fun h => absurd (c_91.symm.trans h) (by decide))])); (first | rw [if_neg (fun h => absurd (c_91.symm.trans h) (by decide))] | (dsimp only; rw [if_neg (fun h => absurd (c_91.symm.trans h) (by decide))])); (first | rw [if_pos c_91] | (dsimp only; rw [if_pos c_91])); (first | done | rfl | (dsimp only; done)))
            · replace hD := hD.2.2.2.2 c_91
              refine ab_aload_n (pc := 187) dX10_giveTurn_187 rfl rfl ?_
              refine xo_gr (pc := 188) (a := (362 : Nat)) dX10_giveTurn_188 fl_X10_47 (by decide) rfl rfl ?_
              refine ab_aload_n (pc := 191) dX10_giveTurn_191 rfl rfl ?_
              refine xo_gr (pc := 192) (a := (1 : Nat)) dX10_giveTurn_192 fl_X10_12 (by decide) rfl rfl ?_
              refine ab_iload_n (pc := 195) dX10_giveTurn_195 rfl rfl ?_
              obtain ⟨o159, hD⟩ := hD
              have e160 := c_X9_takeTurn (tt := tt) _ _ o159
              refine xo_invv (N := mX9_takeTurn) (pc := 196) (d' := 1) (av := [_, _]) dX10_giveTurn_196 ml_X10_228 fv_X9_takeTurn (by decide) (Nat.le_of_ble_eq_true rfl) (by decide) e160 ?_
              refine xo_vr (pc := 199) dX10_giveTurn_199 rfl ?_
              (rw [FX10_giveTurn]; (first | rw [if_neg c_11] | (dsimp only; rw [if_neg c_11])); (first | rw [if_pos c_35] | (dsimp only; rw [if_pos c_35])); (first | rw [if_neg c_60] | (dsimp only; rw [if_neg c_60])); (first | rw [if_neg c_65] | (dsimp only; rw [if_neg c_65])); (first | rw [if_pos c_86] | (dsimp only; rw [if_pos c_86])); (first | rw [if_neg (c_91 _ (List.mem_of_getElem? (i := 0) rfl))] | (dsimp only; rw [if_neg (c_91 _ (List.mem_of_getElem? (i := 0) rfl))])); (first | rw [if_neg (c_91 _ (List.mem_of_getElem? (i := 1) rfl))] | (dsimp only; rw [if_neg (c_91 _ (List.mem_of_getElem? (i := 1) rfl))])); (first | rw [if_neg (c_91 _ (List.mem_of_getElem? (i := 2) rfl))] | (dsimp only; rw [if_neg (c_91 _ (List.mem_of_getElem? (i := 2) rfl))])); (first | rw [if_neg (c_91 _ (List.mem_of_getElem? (i := 3) rfl))] | (dsimp only; rw [if_neg (c_91 _ (List.mem_of_getElem? (i := 3) rfl))])); (first | done | rfl | (dsimp only; done)))
          · refine xo_vr (pc := 89) dX10_giveTurn_89 rfl ?_
            (rw [FX10_giveTurn]; (first | rw [if_neg c_11] | (dsimp only; rw [if_neg c_11])); (first | rw [if_pos c_35] | (dsimp only; rw [if_pos c_35])); (first | rw [if_neg c_60] | (dsimp only; rw [if_neg c_60])); (first | rw [if_neg c_65] | (dsimp only; rw [if_neg c_65])); (first | rw [if_neg c_86] | (dsimp only; rw [if_neg c_86])); (first | done | rfl | (dsimp only; done)))
        · replace hD := hD.1 c_65
          refine ab_aload_n (pc := 68) dX10_giveTurn_68 rfl rfl ?_
          refine xo_gr (pc := 69) (a := (344 : Nat)) dX10_giveTurn_69 fl_X10_26 (by decide) rfl rfl ?_
          refine xo_gi (pc := 72) dX10_giveTurn_72 fl_X10_86 (by decide) rfl ?_
          refine ab_if_ne (pc := 75) (tgt := 89) dX10_giveTurn_75 (by decide) (fun c_75 => ?_) (fun c_75 => ?_)
          · refine xo_vr (pc := 89) dX10_giveTurn_89 rfl ?_
            (rw [FX10_giveTurn]; (first | rw [if_neg c_11] | (dsimp only; rw [if_neg c_11])); (first | rw [if_pos c_35] | (dsimp only; rw [if_pos c_35])); (first | rw [if_neg c_60] | (dsimp only; rw [if_neg c_60])); (first | rw [if_pos c_65] | (dsimp only; rw [if_pos c_65])); (first | rw [if_neg c_75] | (dsimp only; rw [if_neg c_75])); (first | done | rfl | (dsimp only; done)))
          · replace hD := hD.1 c_75
            refine ab_aload_n (pc := 78) dX10_giveTurn_78 rfl rfl ?_
            refine xo_gr (pc := 79) (a := (1 : Nat)) dX10_giveTurn_79 fl_X10_12 (by decide) rfl rfl ?_
            refine ab_iload_n (pc := 82) dX10_giveTurn_82 rfl rfl ?_
            obtain ⟨o162, hD⟩ := hD
            have e163 := c_X1_sendHeld (tt := tt) _ _ o162
            refine xo_invi (N := mX1_sendHeld) (pc := 83) (d' := 2) (av := [_]) dX10_giveTurn_83 ml_X10_214 fv_X1_sendHeld (by decide) (Nat.le_of_ble_eq_true rfl) (by decide) e163 ?_
            refine ab_if_eq (pc := 86) (tgt := 90) dX10_giveTurn_86 (by decide) (fun c_86 => ?_) (fun c_86 => ?_)
            · replace hD := hD.1 c_86
              refine ab_iload_n (pc := 90) dX10_giveTurn_90 rfl rfl ?_
              refine ab_tsw (pc := 91) [(0, 120), (1, 141), (2, 155), (3, 169)] 187 dX10_giveTurn_91 (by decide +kernel) (ab_c1 (fun c_91 => ?_) (ab_c1 (fun c_91 => ?_) (ab_c1 (fun c_91 => ?_) (ab_c1 (fun c_91 => ?_) (ab_c0))))) (fun c_91 => ?_)
              · replace hD := hD.1 c_91
                refine ab_aload_n (pc := 120) dX10_giveTurn_120 rfl rfl ?_
                refine xo_gr (pc := 121) (a := (343 : Nat)) dX10_giveTurn_121 fl_X10_19 (by decide) rfl rfl ?_
                refine ab_aload_n (pc := 124) dX10_giveTurn_124 rfl rfl ?_
                refine xo_gr (pc := 125) (a := (1 : Nat)) dX10_giveTurn_125 fl_X10_12 (by decide) rfl rfl ?_
                obtain ⟨o165, hD⟩ := hD
                have e166 := c_X5_takeTurn (tt := tt)  _ o165
                refine xo_invi (N := mX5_takeTurn) (pc := 128) (d' := 4) (av := [_]) dX10_giveTurn_128 ml_X10_217 fv_X5_takeTurn (by decide) (Nat.le_of_ble_eq_true rfl) (by decide) e166 ?_
                refine ab_if_eq (pc := 131) (tgt := 199) dX10_giveTurn_131 (by decide) (fun c_131 => ?_) (fun c_131 => ?_)
                · refine xo_vr (pc := 199) dX10_giveTurn_199 rfl ?_
                  (rw [FX10_giveTurn]; (first | rw [if_neg c_11] | (dsimp only; rw [if_neg c_11])); (first | rw [if_pos c_35] | (dsimp only; rw [if_pos c_35])); (first | rw [if_neg c_60] | (dsimp only; rw [if_neg c_60])); (first | rw [if_pos c_65] | (dsimp only; rw [if_pos c_65])); (first | rw [if_pos c_75] | (dsimp only; rw [if_pos c_75])); (first | rw [if_pos c_86] | (dsimp only; rw [if_pos c_86])); (first | rw [if_pos c_91] | (dsimp only; rw [if_pos c_91])); (first | rw [if_pos c_131] | (dsimp only; rw [if_pos c_131])); (first | done | rfl | (dsimp only; done)))
                · replace hD := hD.2 c_131
                  refine ab_aload_n (pc := 134) dX10_giveTurn_134 rfl rfl ?_
                  obtain ⟨o168, hD⟩ := hD
                  have e169 := c_X10_breakDriver (tt := tt)  _ o168
                  refine xo_invv (N := mX10_breakDriver) (pc := 135) (d' := 2) (av := []) dX10_giveTurn_135 ml_X10_83 fv_X10_breakDriver (by decide) (Nat.le_of_ble_eq_true rfl) (by decide) e169 ?_
                  refine ab_goto (pc := 138) (tgt := 199) dX10_giveTurn_138 (by decide) ?_
                  refine xo_vr (pc := 199) dX10_giveTurn_199 rfl ?_
                  (rw [FX10_giveTurn]; (first | rw [if_neg c_11] | (dsimp only; rw [if_neg c_11])); (first | rw [if_pos c_35] | (dsimp only; rw [if_pos c_35])); (first | rw [if_neg c_60] | (dsimp only; rw [if_neg c_60])); (first | rw [if_pos c_65] | (dsimp only; rw [if_pos c_65])); (first | rw [if_pos c_75] | (dsimp only; rw [if_pos c_75])); (first | rw [if_pos c_86] | (dsimp only; rw [if_pos c_86])); (first | rw [if_pos c_91] | (dsimp only; rw [if_pos c_91])); (first | rw [if_neg c_131] | (dsimp only; rw [if_neg c_131])); (first | done | rfl | (dsimp only; done)))
              · replace hD := hD.2.1 c_91
                refine ab_aload_n (pc := 141) dX10_giveTurn_141 rfl rfl ?_
                refine xo_gr (pc := 142) (a := (344 : Nat)) dX10_giveTurn_142 fl_X10_26 (by decide) rfl rfl ?_
                refine ab_aload_n (pc := 145) dX10_giveTurn_145 rfl rfl ?_
                refine xo_gr (pc := 146) (a := (1 : Nat)) dX10_giveTurn_146 fl_X10_12 (by decide) rfl rfl ?_
                obtain ⟨o171, hD⟩ := hD
                have e172 := c_X2_takeTurn (tt := tt)  _ o171
                refine xo_invv (N := mX2_takeTurn) (pc := 149) (d' := 3) (av := [_]) dX10_giveTurn_149 ml_X10_221 fv_X2_takeTurn (by decide) (Nat.le_of_ble_eq_true rfl) (by decide) e172 ?_
                refine ab_goto (pc := 152) (tgt := 199) dX10_giveTurn_152 (by decide) ?_
                refine xo_vr (pc := 199) dX10_giveTurn_199 rfl ?_
                (rw [FX10_giveTurn]; (first | rw [if_neg c_11] | (dsimp only; rw [if_neg c_11])); (first | rw [if_pos c_35] | (dsimp only; rw [if_pos c_35])); (first | rw [if_neg c_60] | (dsimp only; rw [if_neg c_60])); (first | rw [if_pos c_65] | (dsimp only; rw [if_pos c_65])); (first | rw [if_pos c_75] | (dsimp only; rw [if_pos c_75])); (first | rw [if_pos c_86] | (dsimp only; rw [if_pos c_86])); (first | rw [if_neg (fun h => absurd (c_91.symm.trans h) (by decide))] | (dsimp only; rw [if_neg (fun h => absurd (c_91.symm.trans h) (by decide))])); (first | rw [if_pos c_91] | (dsimp only; rw [if_pos c_91])); (first | done | rfl | (dsimp only; done)))
              · replace hD := hD.2.2.1 c_91
                refine ab_aload_n (pc := 155) dX10_giveTurn_155 rfl rfl ?_
                refine xo_gr (pc := 156) (a := (347 : Nat)) dX10_giveTurn_156 fl_X10_33 (by decide) rfl rfl ?_
                refine ab_aload_n (pc := 159) dX10_giveTurn_159 rfl rfl ?_
                refine xo_gr (pc := 160) (a := (1 : Nat)) dX10_giveTurn_160 fl_X10_12 (by decide) rfl rfl ?_
                obtain ⟨o174, hD⟩ := hD
                have e175 := c_X3_takeTurn (tt := tt)  _ o174
                refine xo_invv (N := mX3_takeTurn) (pc := 163) (d' := 4) (av := [_]) dX10_giveTurn_163 ml_X10_224 fv_X3_takeTurn (by decide) (Nat.le_of_ble_eq_true rfl) (by decide) e175 ?_
                refine ab_goto (pc := 166) (tgt := 199) dX10_giveTurn_166 (by decide) ?_
                refine xo_vr (pc := 199) dX10_giveTurn_199 rfl ?_
                (rw [FX10_giveTurn]; (first | rw [if_neg c_11] | (dsimp only; rw [if_neg c_11])); (first | rw [if_pos c_35] | (dsimp only; rw [if_pos c_35])); (first | rw [if_neg c_60] | (dsimp only; rw [if_neg c_60])); (first | rw [if_pos c_65] | (dsimp only; rw [if_pos c_65])); (first | rw [if_pos c_75] | (dsimp only; rw [if_pos c_75])); (first | rw [if_pos c_86] | (dsimp only; rw [if_pos c_86])); (first | rw [if_neg (fun h => absurd (c_91.symm.trans h) (by decide))] | (dsimp only; rw [if_neg (fun h => absurd (c_91.symm.trans h) (by decide))])); (first | rw [if_neg (fun h => absurd (c_91.symm.trans h) (by decide))] | (dsimp only; rw [if_neg (fun h => absurd (c_91.symm.trans h) (by decide))])); (first | rw [if_pos c_91] | (dsimp only; rw [if_pos c_91])); (first | done | rfl | (dsimp only; done)))
              · replace hD := hD.2.2.2.1 c_91
                refine ab_aload_n (pc := 169) dX10_giveTurn_169 rfl rfl ?_
                refine xo_gr (pc := 170) (a := (357 : Nat)) dX10_giveTurn_170 fl_X10_40 (by decide) rfl rfl ?_
                refine ab_aload_n (pc := 173) dX10_giveTurn_173 rfl rfl ?_
                refine xo_gr (pc := 174) (a := (1 : Nat)) dX10_giveTurn_174 fl_X10_12 (by decide) rfl rfl ?_
                refine ab_aload_n (pc := 177) dX10_giveTurn_177 rfl rfl ?_
                refine xo_gr (pc := 178) (a := (362 : Nat)) dX10_giveTurn_178 fl_X10_47 (by decide) rfl rfl ?_
                obtain ⟨o177, hD⟩ := hD
                have e178 := c_X8_takeTurn (tt := tt)  _ o177
                refine xo_invv (N := mX8_takeTurn) (pc := 181) (d' := 4) (av := [_, _]) dX10_giveTurn_181 ml_X10_225 fv_X8_takeTurn (by decide) (Nat.le_of_ble_eq_true rfl) (by decide) e178 ?_
                refine ab_goto (pc := 184) (tgt := 199) dX10_giveTurn_184 (by decide) ?_
                refine xo_vr (pc := 199) dX10_giveTurn_199 rfl ?_
                (rw [FX10_giveTurn]; (first | rw [if_neg c_11] | (dsimp only; rw [if_neg c_11])); (first | rw [if_pos c_35] | (dsimp only; rw [if_pos c_35])); (first | rw [if_neg c_60] | (dsimp only; rw [if_neg c_60])); (first | rw [if_pos c_65] | (dsimp only; rw [if_pos c_65])); (first | rw [if_pos c_75] | (dsimp only; rw [if_pos c_75])); (first | rw [if_pos c_86] | (dsimp only; rw [if_pos c_86])); (first | rw [if_neg (fun h => absurd (c_91.symm.trans h) (by decide))] | (dsimp only; rw [if_neg (fun h => absurd (c_91.symm.trans h) (by decide))])); (first | rw [if_neg (fun h => absurd (c_91.symm.trans h) (by decide))] | (dsimp only; rw [if_neg (fun h => absurd (c_91.symm.trans h) (by decide))])); (first | rw [if_neg (fun h => absurd (c_91.symm.trans h) (by decide))] | (dsimp only; rw [if_neg (fun h => absurd (c_91.symm.trans h) (by decide))])); (first | rw [if_pos c_91] | (dsimp only; rw [if_pos c_91])); (first | done | rfl | (dsimp only; done)))
              · replace hD := hD.2.2.2.2 c_91
                refine ab_aload_n (pc := 187) dX10_giveTurn_187 rfl rfl ?_
                refine xo_gr (pc := 188) (a := (362 : Nat)) dX10_giveTurn_188 fl_X10_47 (by decide) rfl rfl ?_
                refine ab_aload_n (pc := 191) dX10_giveTurn_191 rfl rfl ?_
                refine xo_gr (pc := 192) (a := (1 : Nat)) dX10_giveTurn_192 fl_X10_12 (by decide) rfl rfl ?_
                refine ab_iload_n (pc := 195) dX10_giveTurn_195 rfl rfl ?_
                obtain ⟨o180, hD⟩ := hD
                have e181 := c_X9_takeTurn (tt := tt) _ _ o180
                refine xo_invv (N := mX9_takeTurn) (pc := 196) (d' := 1) (av := [_, _]) dX10_giveTurn_196 ml_X10_228 fv_X9_takeTurn (by decide) (Nat.le_of_ble_eq_true rfl) (by decide) e181 ?_
                refine xo_vr (pc := 199) dX10_giveTurn_199 rfl ?_
                (rw [FX10_giveTurn]; (first | rw [if_neg c_11] | (dsimp only; rw [if_neg c_11])); (first | rw [if_pos c_35] | (dsimp only; rw [if_pos c_35])); (first | rw [if_neg c_60] | (dsimp only; rw [if_neg c_60])); (first | rw [if_pos c_65] | (dsimp only; rw [if_pos c_65])); (first | rw [if_pos c_75] | (dsimp only; rw [if_pos c_75])); (first | rw [if_pos c_86] | (dsimp only; rw [if_pos c_86])); (first | rw [if_neg (c_91 _ (List.mem_of_getElem? (i := 0) rfl))] | (dsimp only; rw [if_neg (c_91 _ (List.mem_of_getElem? (i := 0) rfl))])); (first | rw [if_neg (c_91 _ (List.mem_of_getElem? (i := 1) rfl))] | (dsimp only; rw [if_neg (c_91 _ (List.mem_of_getElem? (i := 1) rfl))])); (first | rw [if_neg (c_91 _ (List.mem_of_getElem? (i := 2) rfl))] | (dsimp only; rw [if_neg (c_91 _ (List.mem_of_getElem? (i := 2) rfl))])); (first | rw [if_neg (c_91 _ (List.mem_of_getElem? (i := 3) rfl))] | (dsimp only; rw [if_neg (c_91 _ (List.mem_of_getElem? (i := 3) rfl))])); (first | done | rfl | (dsimp only; done)))
            · refine xo_vr (pc := 89) dX10_giveTurn_89 rfl ?_
              (rw [FX10_giveTurn]; (first | rw [if_neg c_11] | (dsimp only; rw [if_neg c_11])); (first | rw [if_pos c_35] | (dsimp only; rw [if_pos c_35])); (first | rw [if_neg c_60] | (dsimp only; rw [if_neg c_60])); (first | rw [if_pos c_65] | (dsimp only; rw [if_pos c_65])); (first | rw [if_pos c_75] | (dsimp only; rw [if_pos c_75])); (first | rw [if_neg c_86] | (dsimp only; rw [if_neg c_86])); (first | done | rfl | (dsimp only; done)))
def FX10_call (u : Int32) (k : Int32) (a : Int32) (b : Int32) (x : xD) : Int32 × xD :=
  if (FX10_isUser (u)) = 0 then
    ((nI (1)), x)
  else
    if (x.1 3 ((u).toNatClampNeg)) = 0 then
      ((nI (1)), x)
    else
      if (FX9_hasCall (u) x) = 0 then
        if (k) < (nI (1)) then
          ((nI (3)), x)
        else
          if (k) ≤ (nI (12)) then
            if (nI (8)) ≤ (k) then
              let z7 := FX1_postLoose (u) (nI (3)) (k) (a) (b) x
              if (z7.1) = 0 then
                let z10 := FX9_setCall (u) (nI (1)) z7.2
                ((nI (0)), z10)
              else
                ((nI (4)), z7.2)
            else
              let z13 := FX1_postLoose (u) (nI (2)) (k) (a) (b) x
              if (z13.1) = 0 then
                let z16 := FX9_setCall (u) (nI (1)) z13.2
                ((nI (0)), z16)
              else
                ((nI (4)), z13.2)
          else
            ((nI (3)), x)
      else
        ((nI (2)), x)
def DX10_call (u : Int32) (k : Int32) (a : Int32) (b : Int32) (x : xD) : Prop :=
  (((FX10_isUser (u)) = 0) →
    True) ∧
  (¬ ((FX10_isUser (u)) = 0) →
    (¬ (u) < 0) ∧
    (((u).toNatClampNeg) < 12) ∧
    (((x.1 3 ((u).toNatClampNeg)) = 0) →
      True) ∧
    (¬ ((x.1 3 ((u).toNatClampNeg)) = 0) →
      (DX9_hasCall (u) x) ∧
      (((FX9_hasCall (u) x) = 0) →
        (((k) < (nI (1))) →
          True) ∧
        (¬ ((k) < (nI (1))) →
          (((k) ≤ (nI (12))) →
            (((nI (8)) ≤ (k)) →
              (DX1_postLoose (u) (nI (3)) (k) (a) (b) x) ∧
              let z7 := FX1_postLoose (u) (nI (3)) (k) (a) (b) x
              (((z7.1) = 0) →
                (DX9_setCall (u) (nI (1)) z7.2) ∧
                let z10 := FX9_setCall (u) (nI (1)) z7.2
                True) ∧
              (¬ ((z7.1) = 0) →
                True)) ∧
            (¬ ((nI (8)) ≤ (k)) →
              (DX1_postLoose (u) (nI (2)) (k) (a) (b) x) ∧
              let z13 := FX1_postLoose (u) (nI (2)) (k) (a) (b) x
              (((z13.1) = 0) →
                (DX9_setCall (u) (nI (1)) z13.2) ∧
                let z16 := FX9_setCall (u) (nI (1)) z13.2
                True) ∧
              (¬ ((z13.1) = 0) →
                True))) ∧
          (¬ ((k) ≤ (nI (12))) →
            True))) ∧
      (¬ ((FX9_hasCall (u) x) = 0) →
        True)))
set_option maxRecDepth 100000 in
set_option maxHeartbeats 4000000 in
theorem c_X10_call {tt : Prop} (u : Int32) (k : Int32) (a : Int32) (b : Int32) (x : xD) (hD : DX10_call u k a b x) : ab_Met mX10_call 3 0 0 tt [.ref (0 : Nat), .int (u), .int (k), .int (a), .int (b)] (sX x) (xQi (FX10_call u k a b x)) := by
  refine ab_Met.of rfl (Nat.le_of_ble_eq_true rfl) ?_
  show xV mX10_call 3 tt (xQi (FX10_call u k a b x)) 0 [some (.ref (0 : Nat)), some (.int (u)), some (.int (k)), some (.int (a)), some (.int (b))] [] x
  refine ab_iload_n (pc := 0) dX10_call_0 rfl rfl ?_
  refine xo_invs (N := mX10_isUser) (pc := 1) (d' := 0) (av := [_]) dX10_call_1 ml_X10_61 fs_X10_isUser (Nat.le_of_ble_eq_true rfl) (by decide) (c_X10_isUser _ _ trivial) ?_
  refine ab_if_eq (pc := 4) (tgt := 19) dX10_call_4 (by decide) (fun c_4 => ?_) (fun c_4 => ?_)
  · refine ab_iconst (pc := 19) (v := nI 1) dX10_call_19 (by decide) ?_
    refine xo_ir (pc := 20) dX10_call_20 rfl rfl ?_
    (rw [FX10_call]; (first | rw [if_pos c_4] | (dsimp only; rw [if_pos c_4])); (first | done | rfl | (dsimp only; done)))
  · replace hD := hD.2 c_4
    refine ab_aload_n (pc := 7) dX10_call_7 rfl rfl ?_
    refine xo_gr (pc := 8) (a := (1 : Nat)) dX10_call_8 fl_X10_12 (by decide) rfl rfl ?_
    refine xo_gr (pc := 11) (a := (3 : Nat)) dX10_call_11 fl_X10_65 (by decide) rfl rfl ?_
    refine ab_iload_n (pc := 14) dX10_call_14 rfl rfl ?_
    obtain ⟨o1, hD⟩ := hD
    refine ab_nat1 (ab_nat o1) ?_
    obtain ⟨o2, hD⟩ := hD
    refine xo_zld (pc := 15) dX10_call_15 (by decide) rfl o2 (by decide) ?_
    refine ab_if_ne (pc := 16) (tgt := 21) dX10_call_16 (by decide) (fun c_16 => ?_) (fun c_16 => ?_)
    · replace hD := hD.2 c_16
      refine ab_aload_n (pc := 21) dX10_call_21 rfl rfl ?_
      refine xo_gr (pc := 22) (a := (362 : Nat)) dX10_call_22 fl_X10_47 (by decide) rfl rfl ?_
      refine ab_iload_n (pc := 25) dX10_call_25 rfl rfl ?_
      obtain ⟨o3, hD⟩ := hD
      have e4 := c_X9_hasCall (tt := tt) _ _ o3
      refine xo_invr (N := mX9_hasCall) (pc := 26) (d' := 1) (av := [_]) dX10_call_26 ml_X10_69 fv_X9_hasCall (by decide) (Nat.le_of_ble_eq_true rfl) (by decide) e4 ?_
      refine ab_if_eq (pc := 29) (tgt := 34) dX10_call_29 (by decide) (fun c_29 => ?_) (fun c_29 => ?_)
      · replace hD := hD.1 c_29
        refine ab_iload_n (pc := 34) dX10_call_34 rfl rfl ?_
        refine ab_iconst (pc := 35) (v := nI 1) dX10_call_35 (by decide) ?_
        refine ab_icmp_lt (pc := 36) (tgt := 45) dX10_call_36 (by decide) (fun c_36 => ?_) (fun c_36 => ?_)
        · refine ab_iconst (pc := 45) (v := nI 3) dX10_call_45 (by decide) ?_
          refine xo_ir (pc := 46) dX10_call_46 rfl rfl ?_
          (rw [FX10_call]; (first | rw [if_neg c_4] | (dsimp only; rw [if_neg c_4])); (first | rw [if_neg c_16] | (dsimp only; rw [if_neg c_16])); (first | rw [if_pos c_29] | (dsimp only; rw [if_pos c_29])); (first | rw [if_pos c_36] | (dsimp only; rw [if_pos c_36])); (first | done | rfl | (dsimp only; done)))
        · replace hD := hD.2 c_36
          refine ab_iload_n (pc := 39) dX10_call_39 rfl rfl ?_
          refine ab_bipush (pc := 40) (v := nI 12) dX10_call_40 (by decide) ?_
          refine ab_icmp_le (pc := 42) (tgt := 47) dX10_call_42 (by decide) (fun c_42 => ?_) (fun c_42 => ?_)
          · replace hD := hD.1 c_42
            refine ab_aload_n (pc := 47) dX10_call_47 rfl rfl ?_
            refine xo_gr (pc := 48) (a := (1 : Nat)) dX10_call_48 fl_X10_12 (by decide) rfl rfl ?_
            refine ab_iload_n (pc := 51) dX10_call_51 rfl rfl ?_
            refine ab_iload_n (pc := 52) dX10_call_52 rfl rfl ?_
            refine ab_bipush (pc := 53) (v := nI 8) dX10_call_53 (by decide) ?_
            refine ab_icmp_ge (pc := 55) (tgt := 62) dX10_call_55 (by decide) (fun c_55 => ?_) (fun c_55 => ?_)
            · replace hD := hD.1 c_55
              refine ab_iconst (pc := 62) (v := nI 3) dX10_call_62 (by decide) ?_
              refine ab_iload_n (pc := 63) dX10_call_63 rfl rfl ?_
              refine ab_iload_n (pc := 64) dX10_call_64 rfl rfl ?_
              refine ab_iload (pc := 65) dX10_call_65 rfl ?_
              obtain ⟨o5, hD⟩ := hD
              have e6 := c_X1_postLoose (tt := tt) _ _ _ _ _ _ o5
              refine xo_invi (N := mX1_postLoose) (pc := 67) (d' := 2) (av := [_, _, _, _, _]) dX10_call_67 ml_X10_72 fv_X1_postLoose (by decide) (Nat.le_of_ble_eq_true rfl) (by decide) e6 ?_
              refine ab_if_eq (pc := 70) (tgt := 75) dX10_call_70 (by decide) (fun c_70 => ?_) (fun c_70 => ?_)
              · replace hD := hD.1 c_70
                refine ab_aload_n (pc := 75) dX10_call_75 rfl rfl ?_
                refine xo_gr (pc := 76) (a := (362 : Nat)) dX10_call_76 fl_X10_47 (by decide) rfl rfl ?_
                refine ab_iload_n (pc := 79) dX10_call_79 rfl rfl ?_
                refine ab_iconst (pc := 80) (v := nI 1) dX10_call_80 (by decide) ?_
                obtain ⟨o8, hD⟩ := hD
                have e9 := c_X9_setCall (tt := tt) _ _ _ o8
                refine xo_invv (N := mX9_setCall) (pc := 81) (d' := 1) (av := [_, _]) dX10_call_81 ml_X10_76 fv_X9_setCall (by decide) (Nat.le_of_ble_eq_true rfl) (by decide) e9 ?_
                refine ab_iconst (pc := 84) (v := nI 0) dX10_call_84 (by decide) ?_
                refine xo_ir (pc := 85) dX10_call_85 rfl rfl ?_
                (rw [FX10_call]; (first | rw [if_neg c_4] | (dsimp only; rw [if_neg c_4])); (first | rw [if_neg c_16] | (dsimp only; rw [if_neg c_16])); (first | rw [if_pos c_29] | (dsimp only; rw [if_pos c_29])); (first | rw [if_neg c_36] | (dsimp only; rw [if_neg c_36])); (first | rw [if_pos c_42] | (dsimp only; rw [if_pos c_42])); (first | rw [if_pos c_55] | (dsimp only; rw [if_pos c_55])); (first | rw [if_pos c_70] | (dsimp only; rw [if_pos c_70])); (first | done | rfl | (dsimp only; done)))
              · refine ab_iconst (pc := 73) (v := nI 4) dX10_call_73 (by decide) ?_
                refine xo_ir (pc := 74) dX10_call_74 rfl rfl ?_
                (rw [FX10_call]; (first | rw [if_neg c_4] | (dsimp only; rw [if_neg c_4])); (first | rw [if_neg c_16] | (dsimp only; rw [if_neg c_16])); (first | rw [if_pos c_29] | (dsimp only; rw [if_pos c_29])); (first | rw [if_neg c_36] | (dsimp only; rw [if_neg c_36])); (first | rw [if_pos c_42] | (dsimp only; rw [if_pos c_42])); (first | rw [if_pos c_55] | (dsimp only; rw [if_pos c_55])); (first | rw [if_neg c_70] | (dsimp only; rw [if_neg c_70])); (first | done | rfl | (dsimp only; done)))
            · replace hD := hD.2 c_55
              refine ab_iconst (pc := 58) (v := nI 2) dX10_call_58 (by decide) ?_
              refine ab_goto (pc := 59) (tgt := 63) dX10_call_59 (by decide) ?_
              refine ab_iload_n (pc := 63) dX10_call_63 rfl rfl ?_
              refine ab_iload_n (pc := 64) dX10_call_64 rfl rfl ?_
              refine ab_iload (pc := 65) dX10_call_65 rfl ?_
              obtain ⟨o11, hD⟩ := hD
              have e12 := c_X1_postLoose (tt := tt) _ _ _ _ _ _ o11
              refine xo_invi (N := mX1_postLoose) (pc := 67) (d' := 2) (av := [_, _, _, _, _]) dX10_call_67 ml_X10_72 fv_X1_postLoose (by decide) (Nat.le_of_ble_eq_true rfl) (by decide) e12 ?_
              refine ab_if_eq (pc := 70) (tgt := 75) dX10_call_70 (by decide) (fun c_70 => ?_) (fun c_70 => ?_)
              · replace hD := hD.1 c_70
                refine ab_aload_n (pc := 75) dX10_call_75 rfl rfl ?_
                refine xo_gr (pc := 76) (a := (362 : Nat)) dX10_call_76 fl_X10_47 (by decide) rfl rfl ?_
                refine ab_iload_n (pc := 79) dX10_call_79 rfl rfl ?_
                refine ab_iconst (pc := 80) (v := nI 1) dX10_call_80 (by decide) ?_
                obtain ⟨o14, hD⟩ := hD
                have e15 := c_X9_setCall (tt := tt) _ _ _ o14
                refine xo_invv (N := mX9_setCall) (pc := 81) (d' := 1) (av := [_, _]) dX10_call_81 ml_X10_76 fv_X9_setCall (by decide) (Nat.le_of_ble_eq_true rfl) (by decide) e15 ?_
                refine ab_iconst (pc := 84) (v := nI 0) dX10_call_84 (by decide) ?_
                refine xo_ir (pc := 85) dX10_call_85 rfl rfl ?_
                (rw [FX10_call]; (first | rw [if_neg c_4] | (dsimp only; rw [if_neg c_4])); (first | rw [if_neg c_16] | (dsimp only; rw [if_neg c_16])); (first | rw [if_pos c_29] | (dsimp only; rw [if_pos c_29])); (first | rw [if_neg c_36] | (dsimp only; rw [if_neg c_36])); (first | rw [if_pos c_42] | (dsimp only; rw [if_pos c_42])); (first | rw [if_neg c_55] | (dsimp only; rw [if_neg c_55])); (first | rw [if_pos c_70] | (dsimp only; rw [if_pos c_70])); (first | done | rfl | (dsimp only; done)))
              · refine ab_iconst (pc := 73) (v := nI 4) dX10_call_73 (by decide) ?_
                refine xo_ir (pc := 74) dX10_call_74 rfl rfl ?_
                (rw [FX10_call]; (first | rw [if_neg c_4] | (dsimp only; rw [if_neg c_4])); (first | rw [if_neg c_16] | (dsimp only; rw [if_neg c_16])); (first | rw [if_pos c_29] | (dsimp only; rw [if_pos c_29])); (first | rw [if_neg c_36] | (dsimp only; rw [if_neg c_36])); (first | rw [if_pos c_42] | (dsimp only; rw [if_pos c_42])); (first | rw [if_neg c_55] | (dsimp only; rw [if_neg c_55])); (first | rw [if_neg c_70] | (dsimp only; rw [if_neg c_70])); (first | done | rfl | (dsimp only; done)))
          · refine ab_iconst (pc := 45) (v := nI 3) dX10_call_45 (by decide) ?_
            refine xo_ir (pc := 46) dX10_call_46 rfl rfl ?_
            (rw [FX10_call]; (first | rw [if_neg c_4] | (dsimp only; rw [if_neg c_4])); (first | rw [if_neg c_16] | (dsimp only; rw [if_neg c_16])); (first | rw [if_pos c_29] | (dsimp only; rw [if_pos c_29])); (first | rw [if_neg c_36] | (dsimp only; rw [if_neg c_36])); (first | rw [if_neg c_42] | (dsimp only; rw [if_neg c_42])); (first | done | rfl | (dsimp only; done)))
      · refine ab_iconst (pc := 32) (v := nI 2) dX10_call_32 (by decide) ?_
        refine xo_ir (pc := 33) dX10_call_33 rfl rfl ?_
        (rw [FX10_call]; (first | rw [if_neg c_4] | (dsimp only; rw [if_neg c_4])); (first | rw [if_neg c_16] | (dsimp only; rw [if_neg c_16])); (first | rw [if_neg c_29] | (dsimp only; rw [if_neg c_29])); (first | done | rfl | (dsimp only; done)))
    · refine ab_iconst (pc := 19) (v := nI 1) dX10_call_19 (by decide) ?_
      refine xo_ir (pc := 20) dX10_call_20 rfl rfl ?_
      (rw [FX10_call]; (first | rw [if_neg c_4] | (dsimp only; rw [if_neg c_4])); (first | rw [if_pos c_16] | (dsimp only; rw [if_pos c_16])); (first | done | rfl | (dsimp only; done)))
def FX10_steps_15 : Nat → Int32 → Nat → xD → Int32 × xD
  | 0, _, _, x => (0, x)
  | n + 1, w, a2, x =>
    if (w) ≤ (nI (a2)) then
      ((x.1 0 6), x)
    else
      let z3 := FX10_giveTurn  x
      FX10_steps_15 n w (a2 + 1) z3
def DX10_steps_15 : Nat → Int32 → Nat → xD → Prop
  | 0, _, _, _ => False
  | n + 1, w, a2, x =>
    (((w) ≤ (nI (a2))) →
      True) ∧
    (¬ ((w) ≤ (nI (a2))) →
      (DX10_giveTurn  x) ∧
      let z3 := FX10_giveTurn  x
      DX10_steps_15 n w (a2 + 1) z3)
set_option maxRecDepth 100000 in
set_option maxHeartbeats 4000000 in
theorem w_X10_steps_15 {tt : Prop} : ∀ (n : Nat) (w : Int32) (a2 : Nat) (x : xD) (hD : DX10_steps_15 n w a2 x), xV mX10_steps 6 tt (xQi (FX10_steps_15 n w a2 x)) 15 [some (.ref (0 : Nat)), some (.int (w)), some (.int (nI (a2)))] [] x := by
  intro n
  induction n with
  | zero => intros; rename_i hD; exact hD.elim
  | succ n ih =>
    intro w a2 x hD
    refine ab_iload_n (pc := 15) dX10_steps_15 rfl rfl ?_
    refine ab_iload_n (pc := 16) dX10_steps_16 rfl rfl ?_
    refine ab_icmp_ge (pc := 17) (tgt := 30) dX10_steps_17 (by decide) (fun c_17 => ?_) (fun c_17 => ?_)
    · refine ab_aload_n (pc := 30) dX10_steps_30 rfl rfl ?_
      refine xo_gi (pc := 31) dX10_steps_31 fl_X10_51 (by decide) rfl ?_
      refine xo_ir (pc := 34) dX10_steps_34 rfl rfl ?_
      (rw [FX10_steps_15]; (first | rw [if_pos c_17] | (dsimp only; rw [if_pos c_17])); (first | done | rfl | (dsimp only; done)))
    · replace hD := hD.2 c_17
      refine ab_aload_n (pc := 20) dX10_steps_20 rfl rfl ?_
      obtain ⟨o1, hD⟩ := hD
      have e2 := c_X10_giveTurn (tt := tt)  _ o1
      refine xo_invv (N := mX10_giveTurn) (pc := 21) (d' := 5) (av := []) dX10_steps_21 ml_X10_80 fv_X10_giveTurn (by decide) (Nat.le_of_ble_eq_true rfl) (by decide) e2 ?_
      refine ab_iinc (pc := 24) dX10_steps_24 rfl (ab_inc _) (Nat.le_of_ble_eq_true rfl) rfl ?_
      refine ab_goto (pc := 27) (tgt := 15) dX10_steps_27 (by decide) ?_
      refine xo_eqi ?_ (ih _ _ _ hD)
      (rw [FX10_steps_15]; (first | rw [if_neg c_17] | (dsimp only; rw [if_neg c_17])); (first | done | rfl | (dsimp only; done)))
def FX10_steps (w : Int32) (x : xD) : Int32 × xD :=
  if (w) < 0 then
    ((-1), x)
  else
    if (w) ≤ (nI (20000)) then
      FX10_steps_15 20001 w 0 x
    else
      ((-1), x)
def DX10_steps (w : Int32) (x : xD) : Prop :=
  (((w) < 0) →
    True) ∧
  (¬ ((w) < 0) →
    (((w) ≤ (nI (20000))) →
      DX10_steps_15 20001 w 0 x) ∧
    (¬ ((w) ≤ (nI (20000))) →
      True))
set_option maxRecDepth 100000 in
set_option maxHeartbeats 4000000 in
theorem c_X10_steps {tt : Prop} (w : Int32) (x : xD) (hD : DX10_steps w x) : ab_Met mX10_steps 6 0 0 tt [.ref (0 : Nat), .int (w)] (sX x) (xQi (FX10_steps w x)) := by
  refine ab_Met.of rfl (Nat.le_of_ble_eq_true rfl) ?_
  show xV mX10_steps 6 tt (xQi (FX10_steps w x)) 0 [some (.ref (0 : Nat)), some (.int (w)), none] [] x
  refine ab_iload_n (pc := 0) dX10_steps_0 rfl rfl ?_
  refine ab_if_lt (pc := 1) (tgt := 11) dX10_steps_1 (by decide) (fun c_1 => ?_) (fun c_1 => ?_)
  · refine ab_iconst (pc := 11) (v := -1) dX10_steps_11 (by decide) ?_
    refine xo_ir (pc := 12) dX10_steps_12 rfl rfl ?_
    (rw [FX10_steps]; (first | rw [if_pos c_1] | (dsimp only; rw [if_pos c_1])); (first | done | rfl | (dsimp only; done)))
  · replace hD := hD.2 c_1
    refine ab_iload_n (pc := 4) dX10_steps_4 rfl rfl ?_
    refine ab_sipush (pc := 5) (v := nI 20000) dX10_steps_5 (by decide) ?_
    refine ab_icmp_le (pc := 8) (tgt := 13) dX10_steps_8 (by decide) (fun c_8 => ?_) (fun c_8 => ?_)
    · replace hD := hD.1 c_8
      refine ab_iconst (pc := 13) (v := nI 0) dX10_steps_13 (by decide) ?_
      refine ab_istore_n (pc := 14) dX10_steps_14 rfl (Nat.le_of_ble_eq_true rfl) rfl ?_
      refine xo_eqi ?_ (w_X10_steps_15 20001 _ _ _ hD)
      (rw [FX10_steps]; (first | rw [if_neg c_1] | (dsimp only; rw [if_neg c_1])); (first | rw [if_pos c_8] | (dsimp only; rw [if_pos c_8])); (first | done | rfl | (dsimp only; done)))
    · refine ab_iconst (pc := 11) (v := -1) dX10_steps_11 (by decide) ?_
      refine xo_ir (pc := 12) dX10_steps_12 rfl rfl ?_
      (rw [FX10_steps]; (first | rw [if_neg c_1] | (dsimp only; rw [if_neg c_1])); (first | rw [if_neg c_8] | (dsimp only; rw [if_neg c_8])); (first | done | rfl | (dsimp only; done)))
def FX10_until_22 : Nat → Int32 → Int32 → Nat → xD → Int32 × xD
  | 0, _, _, _, x => (0, x)
  | n + 1, u, w, a3, x =>
    if (w) ≤ (nI (a3)) then
      ((nI (a3)), x)
    else
      if (FX9_hasCall (u) x) = 0 then
        ((nI (a3)), x)
      else
        let z5 := FX10_giveTurn  x
        FX10_until_22 n u w (a3 + 1) z5
def DX10_until_22 : Nat → Int32 → Int32 → Nat → xD → Prop
  | 0, _, _, _, _ => False
  | n + 1, u, w, a3, x =>
    (((w) ≤ (nI (a3))) →
      True) ∧
    (¬ ((w) ≤ (nI (a3))) →
      (DX9_hasCall (u) x) ∧
      (((FX9_hasCall (u) x) = 0) →
        True) ∧
      (¬ ((FX9_hasCall (u) x) = 0) →
        (DX10_giveTurn  x) ∧
        let z5 := FX10_giveTurn  x
        DX10_until_22 n u w (a3 + 1) z5))
set_option maxRecDepth 100000 in
set_option maxHeartbeats 4000000 in
theorem w_X10_until_22 {tt : Prop} : ∀ (n : Nat) (u : Int32) (w : Int32) (a3 : Nat) (x : xD) (hD : DX10_until_22 n u w a3 x), xV mX10_until 6 tt (xQi (FX10_until_22 n u w a3 x)) 22 [some (.ref (0 : Nat)), some (.int (u)), some (.int (w)), some (.int (nI (a3)))] [] x := by
  intro n
  induction n with
  | zero => intros; rename_i hD; exact hD.elim
  | succ n ih =>
    intro u w a3 x hD
    refine ab_iload_n (pc := 22) dX10_until_22 rfl rfl ?_
    refine ab_iload_n (pc := 23) dX10_until_23 rfl rfl ?_
    refine ab_icmp_ge (pc := 24) (tgt := 48) dX10_until_24 (by decide) (fun c_24 => ?_) (fun c_24 => ?_)
    · refine ab_iload_n (pc := 48) dX10_until_48 rfl rfl ?_
      refine xo_ir (pc := 49) dX10_until_49 rfl rfl ?_
      (rw [FX10_until_22]; (first | rw [if_pos c_24] | (dsimp only; rw [if_pos c_24])); (first | done | rfl | (dsimp only; done)))
    · replace hD := hD.2 c_24
      refine ab_aload_n (pc := 27) dX10_until_27 rfl rfl ?_
      refine xo_gr (pc := 28) (a := (362 : Nat)) dX10_until_28 fl_X10_47 (by decide) rfl rfl ?_
      refine ab_iload_n (pc := 31) dX10_until_31 rfl rfl ?_
      obtain ⟨o1, hD⟩ := hD
      have e2 := c_X9_hasCall (tt := tt) _ _ o1
      refine xo_invr (N := mX9_hasCall) (pc := 32) (d' := 1) (av := [_]) dX10_until_32 ml_X10_69 fv_X9_hasCall (by decide) (Nat.le_of_ble_eq_true rfl) (by decide) e2 ?_
      refine ab_if_eq (pc := 35) (tgt := 48) dX10_until_35 (by decide) (fun c_35 => ?_) (fun c_35 => ?_)
      · refine ab_iload_n (pc := 48) dX10_until_48 rfl rfl ?_
        refine xo_ir (pc := 49) dX10_until_49 rfl rfl ?_
        (rw [FX10_until_22]; (first | rw [if_neg c_24] | (dsimp only; rw [if_neg c_24])); (first | rw [if_pos c_35] | (dsimp only; rw [if_pos c_35])); (first | done | rfl | (dsimp only; done)))
      · replace hD := hD.2 c_35
        refine ab_aload_n (pc := 38) dX10_until_38 rfl rfl ?_
        obtain ⟨o3, hD⟩ := hD
        have e4 := c_X10_giveTurn (tt := tt)  _ o3
        refine xo_invv (N := mX10_giveTurn) (pc := 39) (d' := 5) (av := []) dX10_until_39 ml_X10_80 fv_X10_giveTurn (by decide) (Nat.le_of_ble_eq_true rfl) (by decide) e4 ?_
        refine ab_iinc (pc := 42) dX10_until_42 rfl (ab_inc _) (Nat.le_of_ble_eq_true rfl) rfl ?_
        refine ab_goto (pc := 45) (tgt := 22) dX10_until_45 (by decide) ?_
        refine xo_eqi ?_ (ih _ _ _ _ hD)
        (rw [FX10_until_22]; (first | rw [if_neg c_24] | (dsimp only; rw [if_neg c_24])); (first | rw [if_neg c_35] | (dsimp only; rw [if_neg c_35])); (first | done | rfl | (dsimp only; done)))
def FX10_until (u : Int32) (w : Int32) (x : xD) : Int32 × xD :=
  if (FX10_isUser (u)) = 0 then
    ((-1), x)
  else
    if (w) < 0 then
      ((-1), x)
    else
      if (w) ≤ (nI (20000)) then
        FX10_until_22 20001 u w 0 x
      else
        ((-1), x)
def DX10_until (u : Int32) (w : Int32) (x : xD) : Prop :=
  (((FX10_isUser (u)) = 0) →
    True) ∧
  (¬ ((FX10_isUser (u)) = 0) →
    (((w) < 0) →
      True) ∧
    (¬ ((w) < 0) →
      (((w) ≤ (nI (20000))) →
        DX10_until_22 20001 u w 0 x) ∧
      (¬ ((w) ≤ (nI (20000))) →
        True)))
set_option maxRecDepth 100000 in
set_option maxHeartbeats 4000000 in
theorem c_X10_until {tt : Prop} (u : Int32) (w : Int32) (x : xD) (hD : DX10_until u w x) : ab_Met mX10_until 6 0 0 tt [.ref (0 : Nat), .int (u), .int (w)] (sX x) (xQi (FX10_until u w x)) := by
  refine ab_Met.of rfl (Nat.le_of_ble_eq_true rfl) ?_
  show xV mX10_until 6 tt (xQi (FX10_until u w x)) 0 [some (.ref (0 : Nat)), some (.int (u)), some (.int (w)), none] [] x
  refine ab_iload_n (pc := 0) dX10_until_0 rfl rfl ?_
  refine xo_invs (N := mX10_isUser) (pc := 1) (d' := 0) (av := [_]) dX10_until_1 ml_X10_61 fs_X10_isUser (Nat.le_of_ble_eq_true rfl) (by decide) (c_X10_isUser _ _ trivial) ?_
  refine ab_if_eq (pc := 4) (tgt := 18) dX10_until_4 (by decide) (fun c_4 => ?_) (fun c_4 => ?_)
  · refine ab_iconst (pc := 18) (v := -1) dX10_until_18 (by decide) ?_
    refine xo_ir (pc := 19) dX10_until_19 rfl rfl ?_
    (rw [FX10_until]; (first | rw [if_pos c_4] | (dsimp only; rw [if_pos c_4])); (first | done | rfl | (dsimp only; done)))
  · replace hD := hD.2 c_4
    refine ab_iload_n (pc := 7) dX10_until_7 rfl rfl ?_
    refine ab_if_lt (pc := 8) (tgt := 18) dX10_until_8 (by decide) (fun c_8 => ?_) (fun c_8 => ?_)
    · refine ab_iconst (pc := 18) (v := -1) dX10_until_18 (by decide) ?_
      refine xo_ir (pc := 19) dX10_until_19 rfl rfl ?_
      (rw [FX10_until]; (first | rw [if_neg c_4] | (dsimp only; rw [if_neg c_4])); (first | rw [if_pos c_8] | (dsimp only; rw [if_pos c_8])); (first | done | rfl | (dsimp only; done)))
    · replace hD := hD.2 c_8
      refine ab_iload_n (pc := 11) dX10_until_11 rfl rfl ?_
      refine ab_sipush (pc := 12) (v := nI 20000) dX10_until_12 (by decide) ?_
      refine ab_icmp_le (pc := 15) (tgt := 20) dX10_until_15 (by decide) (fun c_15 => ?_) (fun c_15 => ?_)
      · replace hD := hD.1 c_15
        refine ab_iconst (pc := 20) (v := nI 0) dX10_until_20 (by decide) ?_
        refine ab_istore_n (pc := 21) dX10_until_21 rfl (Nat.le_of_ble_eq_true rfl) rfl ?_
        refine xo_eqi ?_ (w_X10_until_22 20001 _ _ _ _ hD)
        (rw [FX10_until]; (first | rw [if_neg c_4] | (dsimp only; rw [if_neg c_4])); (first | rw [if_neg c_8] | (dsimp only; rw [if_neg c_8])); (first | rw [if_pos c_15] | (dsimp only; rw [if_pos c_15])); (first | done | rfl | (dsimp only; done)))
      · refine ab_iconst (pc := 18) (v := -1) dX10_until_18 (by decide) ?_
        refine xo_ir (pc := 19) dX10_until_19 rfl rfl ?_
        (rw [FX10_until]; (first | rw [if_neg c_4] | (dsimp only; rw [if_neg c_4])); (first | rw [if_neg c_8] | (dsimp only; rw [if_neg c_8])); (first | rw [if_neg c_15] | (dsimp only; rw [if_neg c_15])); (first | done | rfl | (dsimp only; done)))
def FX10_crash  (x : xD) : Int32 × xD :=
  if (x.1 3 1) = 0 then
    ((nI (0)), x)
  else
    let z3 := FX10_breakDriver  x
    ((nI (1)), z3)
def DX10_crash  (x : xD) : Prop :=
  (((x.1 3 1) = 0) →
    True) ∧
  (¬ ((x.1 3 1) = 0) →
    (DX10_breakDriver  x) ∧
    let z3 := FX10_breakDriver  x
    True)
set_option maxRecDepth 100000 in
set_option maxHeartbeats 4000000 in
theorem c_X10_crash {tt : Prop}  (x : xD) (hD : DX10_crash  x) : ab_Met mX10_crash 3 0 0 tt [.ref (0 : Nat)] (sX x) (xQi (FX10_crash  x)) := by
  refine ab_Met.of rfl (Nat.le_of_ble_eq_true rfl) ?_
  show xV mX10_crash 3 tt (xQi (FX10_crash  x)) 0 [some (.ref (0 : Nat))] [] x
  refine ab_aload_n (pc := 0) dX10_crash_0 rfl rfl ?_
  refine xo_gr (pc := 1) (a := (1 : Nat)) dX10_crash_1 fl_X10_12 (by decide) rfl rfl ?_
  refine xo_gr (pc := 4) (a := (3 : Nat)) dX10_crash_4 fl_X10_65 (by decide) rfl rfl ?_
  refine ab_iconst (pc := 7) (v := nI 1) dX10_crash_7 (by decide) ?_
  refine xo_zld (pc := 8) dX10_crash_8 (by decide) rfl (by decide) (by decide) ?_
  refine ab_if_ne (pc := 9) (tgt := 14) dX10_crash_9 (by decide) (fun c_9 => ?_) (fun c_9 => ?_)
  · replace hD := hD.2 c_9
    refine ab_aload_n (pc := 14) dX10_crash_14 rfl rfl ?_
    obtain ⟨o1, hD⟩ := hD
    have e2 := c_X10_breakDriver (tt := tt)  _ o1
    refine xo_invv (N := mX10_breakDriver) (pc := 15) (d' := 2) (av := []) dX10_crash_15 ml_X10_83 fv_X10_breakDriver (by decide) (Nat.le_of_ble_eq_true rfl) (by decide) e2 ?_
    refine ab_iconst (pc := 18) (v := nI 1) dX10_crash_18 (by decide) ?_
    refine xo_ir (pc := 19) dX10_crash_19 rfl (ab_nb (Or.inr rfl)) ?_
    (rw [FX10_crash]; (first | rw [if_neg c_9] | (dsimp only; rw [if_neg c_9])); (first | done | rfl | (dsimp only; done)))
  · refine ab_iconst (pc := 12) (v := nI 0) dX10_crash_12 (by decide) ?_
    refine xo_ir (pc := 13) dX10_crash_13 rfl (ab_nb (Or.inl rfl)) ?_
    (rw [FX10_crash]; (first | rw [if_pos c_9] | (dsimp only; rw [if_pos c_9])); (first | done | rfl | (dsimp only; done)))
def FX10_hang  (x : xD) : Int32 × xD :=
  if (x.1 3 1) = 0 then
    ((nI (0)), x)
  else
    if (x.1 344 2) = 0 then
      let x1 : xD := (ab_up x.1 344 2 (nI (1)), x.2)
      ((nI (1)), x1)
    else
      ((nI (0)), x)
set_option maxRecDepth 100000 in
set_option maxHeartbeats 4000000 in
theorem c_X10_hang {tt : Prop}  (x : xD) (hD : True) : ab_Met mX10_hang 0 0 0 tt [.ref (0 : Nat)] (sX x) (xQi (FX10_hang  x)) := by
  refine ab_Met.of rfl (Nat.le_of_ble_eq_true rfl) ?_
  show xV mX10_hang 0 tt (xQi (FX10_hang  x)) 0 [some (.ref (0 : Nat))] [] x
  refine ab_aload_n (pc := 0) dX10_hang_0 rfl rfl ?_
  refine xo_gr (pc := 1) (a := (1 : Nat)) dX10_hang_1 fl_X10_12 (by decide) rfl rfl ?_
  refine xo_gr (pc := 4) (a := (3 : Nat)) dX10_hang_4 fl_X10_65 (by decide) rfl rfl ?_
  refine ab_iconst (pc := 7) (v := nI 1) dX10_hang_7 (by decide) ?_
  refine xo_zld (pc := 8) dX10_hang_8 (by decide) rfl (by decide) (by decide) ?_
  refine ab_if_eq (pc := 9) (tgt := 22) dX10_hang_9 (by decide) (fun c_9 => ?_) (fun c_9 => ?_)
  · refine ab_iconst (pc := 22) (v := nI 0) dX10_hang_22 (by decide) ?_
    refine xo_ir (pc := 23) dX10_hang_23 rfl (ab_nb (Or.inl rfl)) ?_
    (rw [FX10_hang]; (first | rw [if_pos c_9] | (dsimp only; rw [if_pos c_9])); (first | done | rfl | (dsimp only; done)))
  · refine ab_aload_n (pc := 12) dX10_hang_12 rfl rfl ?_
    refine xo_gr (pc := 13) (a := (344 : Nat)) dX10_hang_13 fl_X10_26 (by decide) rfl rfl ?_
    refine xo_gi (pc := 16) dX10_hang_16 fl_X10_86 (by decide) rfl ?_
    refine ab_if_eq (pc := 19) (tgt := 24) dX10_hang_19 (by decide) (fun c_19 => ?_) (fun c_19 => ?_)
    · refine ab_aload_n (pc := 24) dX10_hang_24 rfl rfl ?_
      refine xo_gr (pc := 25) (a := (344 : Nat)) dX10_hang_25 fl_X10_26 (by decide) rfl rfl ?_
      refine ab_iconst (pc := 28) (v := nI 1) dX10_hang_28 (by decide) ?_
      refine xo_pi (pc := 29) dX10_hang_29 fl_X10_86 (by decide) rfl (fun _ _ _ h => Or.inl (by cases h; rfl)) (ab_ok_b (Or.inr rfl)) ?_
      refine ab_iconst (pc := 32) (v := nI 1) dX10_hang_32 (by decide) ?_
      refine xo_ir (pc := 33) dX10_hang_33 rfl (ab_nb (Or.inr rfl)) ?_
      (rw [FX10_hang]; (first | rw [if_neg c_9] | (dsimp only; rw [if_neg c_9])); (first | rw [if_pos c_19] | (dsimp only; rw [if_pos c_19])); (first | done | rfl | (dsimp only; done)))
    · refine ab_iconst (pc := 22) (v := nI 0) dX10_hang_22 (by decide) ?_
      refine xo_ir (pc := 23) dX10_hang_23 rfl (ab_nb (Or.inl rfl)) ?_
      (rw [FX10_hang]; (first | rw [if_neg c_9] | (dsimp only; rw [if_neg c_9])); (first | rw [if_neg c_19] | (dsimp only; rw [if_neg c_19])); (first | done | rfl | (dsimp only; done)))
def FX10_force (f : Int32) (t : Int32) (x : xD) : Int32 × xD :=
  if (FX10_isPart (f)) = 0 then
    ((-1), x)
  else
    if (FX10_isPart (t)) = 0 then
      ((-1), x)
    else
      if (x.1 3 ((f).toNatClampNeg)) = 0 then
        ((-1), x)
      else
        let z5 := FX1_postLoose (f) (t) (nI (0)) (nI (0)) (nI (0)) x
        ((z5.1), z5.2)
def DX10_force (f : Int32) (t : Int32) (x : xD) : Prop :=
  (((FX10_isPart (f)) = 0) →
    True) ∧
  (¬ ((FX10_isPart (f)) = 0) →
    (((FX10_isPart (t)) = 0) →
      True) ∧
    (¬ ((FX10_isPart (t)) = 0) →
      (¬ (f) < 0) ∧
      (((f).toNatClampNeg) < 12) ∧
      (((x.1 3 ((f).toNatClampNeg)) = 0) →
        True) ∧
      (¬ ((x.1 3 ((f).toNatClampNeg)) = 0) →
        (DX1_postLoose (f) (t) (nI (0)) (nI (0)) (nI (0)) x) ∧
        let z5 := FX1_postLoose (f) (t) (nI (0)) (nI (0)) (nI (0)) x
        True)))
set_option maxRecDepth 100000 in
set_option maxHeartbeats 4000000 in
theorem c_X10_force {tt : Prop} (f : Int32) (t : Int32) (x : xD) (hD : DX10_force f t x) : ab_Met mX10_force 3 0 0 tt [.ref (0 : Nat), .int (f), .int (t)] (sX x) (xQi (FX10_force f t x)) := by
  refine ab_Met.of rfl (Nat.le_of_ble_eq_true rfl) ?_
  show xV mX10_force 3 tt (xQi (FX10_force f t x)) 0 [some (.ref (0 : Nat)), some (.int (f)), some (.int (t))] [] x
  refine ab_iload_n (pc := 0) dX10_force_0 rfl rfl ?_
  refine xo_invs (N := mX10_isPart) (pc := 1) (d' := 0) (av := [_]) dX10_force_1 ml_X10_90 fs_X10_isPart (Nat.le_of_ble_eq_true rfl) (by decide) (c_X10_isPart _ _ trivial) ?_
  refine ab_if_eq (pc := 4) (tgt := 26) dX10_force_4 (by decide) (fun c_4 => ?_) (fun c_4 => ?_)
  · refine ab_iconst (pc := 26) (v := -1) dX10_force_26 (by decide) ?_
    refine xo_ir (pc := 27) dX10_force_27 rfl rfl ?_
    (rw [FX10_force]; (first | rw [if_pos c_4] | (dsimp only; rw [if_pos c_4])); (first | done | rfl | (dsimp only; done)))
  · replace hD := hD.2 c_4
    refine ab_iload_n (pc := 7) dX10_force_7 rfl rfl ?_
    refine xo_invs (N := mX10_isPart) (pc := 8) (d' := 0) (av := [_]) dX10_force_8 ml_X10_90 fs_X10_isPart (Nat.le_of_ble_eq_true rfl) (by decide) (c_X10_isPart _ _ trivial) ?_
    refine ab_if_eq (pc := 11) (tgt := 26) dX10_force_11 (by decide) (fun c_11 => ?_) (fun c_11 => ?_)
    · refine ab_iconst (pc := 26) (v := -1) dX10_force_26 (by decide) ?_
      refine xo_ir (pc := 27) dX10_force_27 rfl rfl ?_
      (rw [FX10_force]; (first | rw [if_neg c_4] | (dsimp only; rw [if_neg c_4])); (first | rw [if_pos c_11] | (dsimp only; rw [if_pos c_11])); (first | done | rfl | (dsimp only; done)))
    · replace hD := hD.2 c_11
      refine ab_aload_n (pc := 14) dX10_force_14 rfl rfl ?_
      refine xo_gr (pc := 15) (a := (1 : Nat)) dX10_force_15 fl_X10_12 (by decide) rfl rfl ?_
      refine xo_gr (pc := 18) (a := (3 : Nat)) dX10_force_18 fl_X10_65 (by decide) rfl rfl ?_
      refine ab_iload_n (pc := 21) dX10_force_21 rfl rfl ?_
      obtain ⟨o1, hD⟩ := hD
      refine ab_nat1 (ab_nat o1) ?_
      obtain ⟨o2, hD⟩ := hD
      refine xo_zld (pc := 22) dX10_force_22 (by decide) rfl o2 (by decide) ?_
      refine ab_if_ne (pc := 23) (tgt := 28) dX10_force_23 (by decide) (fun c_23 => ?_) (fun c_23 => ?_)
      · replace hD := hD.2 c_23
        refine ab_aload_n (pc := 28) dX10_force_28 rfl rfl ?_
        refine xo_gr (pc := 29) (a := (1 : Nat)) dX10_force_29 fl_X10_12 (by decide) rfl rfl ?_
        refine ab_iload_n (pc := 32) dX10_force_32 rfl rfl ?_
        refine ab_iload_n (pc := 33) dX10_force_33 rfl rfl ?_
        refine ab_iconst (pc := 34) (v := nI 0) dX10_force_34 (by decide) ?_
        refine ab_iconst (pc := 35) (v := nI 0) dX10_force_35 (by decide) ?_
        refine ab_iconst (pc := 36) (v := nI 0) dX10_force_36 (by decide) ?_
        obtain ⟨o3, hD⟩ := hD
        have e4 := c_X1_postLoose (tt := tt) _ _ _ _ _ _ o3
        refine xo_invi (N := mX1_postLoose) (pc := 37) (d' := 2) (av := [_, _, _, _, _]) dX10_force_37 ml_X10_72 fv_X1_postLoose (by decide) (Nat.le_of_ble_eq_true rfl) (by decide) e4 ?_
        refine xo_ir (pc := 40) dX10_force_40 rfl rfl ?_
        (rw [FX10_force]; (first | rw [if_neg c_4] | (dsimp only; rw [if_neg c_4])); (first | rw [if_neg c_11] | (dsimp only; rw [if_neg c_11])); (first | rw [if_neg c_23] | (dsimp only; rw [if_neg c_23])); (first | done | rfl | (dsimp only; done)))
      · refine ab_iconst (pc := 26) (v := -1) dX10_force_26 (by decide) ?_
        refine xo_ir (pc := 27) dX10_force_27 rfl rfl ?_
        (rw [FX10_force]; (first | rw [if_neg c_4] | (dsimp only; rw [if_neg c_4])); (first | rw [if_neg c_11] | (dsimp only; rw [if_neg c_11])); (first | rw [if_pos c_23] | (dsimp only; rw [if_pos c_23])); (first | done | rfl | (dsimp only; done)))
def FX10_user (u : Int32) (w : Int32) (x : xD) : Int32 × xD :=
  if (FX10_isUser (u)) = 0 then
    (0, x)
  else
    if (w) = 0 then
      if (x.1 3 ((u).toNatClampNeg)) = 0 then
        if (FX8_hasEnded (u) x) = 0 then
          ((nI (0)), x)
        else
          ((nI (2)), x)
      else
        ((nI (1)), x)
    else if (w) = 1 then
      if (FX9_hasCall (u) x) = 0 then
        ((nI (0)), x)
      else
        ((nI (1)), x)
    else if (w) = 2 then
      ((x.1 364 ((u).toNatClampNeg)), x)
    else if (w) = 3 then
      ((x.1 365 ((u).toNatClampNeg)), x)
    else if (w) = 4 then
      ((FX8_parentOf (u) x), x)
    else if (w) = 5 then
      ((FX8_codeOf (u) x), x)
    else if (w) = 6 then
      ((FX7_howMany (u) x), x)
    else
      (0, x)
def DX10_user (u : Int32) (w : Int32) (x : xD) : Prop :=
  (((FX10_isUser (u)) = 0) →
    (False) ∧
    True) ∧
  (¬ ((FX10_isUser (u)) = 0) →
    ((w) = 0 →
      (¬ (u) < 0) ∧
      (((u).toNatClampNeg) < 12) ∧
      (((x.1 3 ((u).toNatClampNeg)) = 0) →
        (DX8_hasEnded (u) x) ∧
        True) ∧
      (¬ ((x.1 3 ((u).toNatClampNeg)) = 0) →
        True)) ∧
    ((w) = 1 →
      (DX9_hasCall (u) x) ∧
      True) ∧
    ((w) = 2 →
      (¬ (u) < 0) ∧
      (((u).toNatClampNeg) < 12) ∧
      True) ∧
    ((w) = 3 →
      (¬ (u) < 0) ∧
      (((u).toNatClampNeg) < 12) ∧
      True) ∧
    ((w) = 4 →
      (DX8_parentOf (u) x) ∧
      True) ∧
    ((w) = 5 →
      (DX8_codeOf (u) x) ∧
      True) ∧
    ((w) = 6 →
      (DX7_howMany (u) x) ∧
      True) ∧
    ((∀ c ∈ ([(0, 60), (1, 93), (2, 110), (3, 120), (4, 130), (5, 139), (6, 148)] : List (Int32 × Nat)), ¬ (w) = c.1) →
      (False) ∧
      True))
set_option maxRecDepth 100000 in
set_option maxHeartbeats 4000000 in
theorem c_X10_user {tt : Prop} (u : Int32) (w : Int32) (x : xD) (hD : DX10_user u w x) : ab_Met mX10_user 3 0 0 tt [.ref (0 : Nat), .int (u), .int (w)] (sX x) (xQi (FX10_user u w x)) := by
  refine ab_Met.of rfl (Nat.le_of_ble_eq_true rfl) ?_
  show xV mX10_user 3 tt (xQi (FX10_user u w x)) 0 [some (.ref (0 : Nat)), some (.int (u)), some (.int (w))] [] x
  refine ab_iload_n (pc := 0) dX10_user_0 rfl rfl ?_
  refine xo_invs (N := mX10_isUser) (pc := 1) (d' := 0) (av := [_]) dX10_user_1 ml_X10_61 fs_X10_isUser (Nat.le_of_ble_eq_true rfl) (by decide) (c_X10_isUser _ _ trivial) ?_
  refine ab_if_ne (pc := 4) (tgt := 17) dX10_user_4 (by decide) (fun c_4 => ?_) (fun c_4 => ?_)
  · replace hD := hD.2 c_4
    refine ab_iload_n (pc := 17) dX10_user_17 rfl rfl ?_
    refine ab_tsw (pc := 18) [(0, 60), (1, 93), (2, 110), (3, 120), (4, 130), (5, 139), (6, 148)] 160 dX10_user_18 (by decide +kernel) (ab_c1 (fun c_18 => ?_) (ab_c1 (fun c_18 => ?_) (ab_c1 (fun c_18 => ?_) (ab_c1 (fun c_18 => ?_) (ab_c1 (fun c_18 => ?_) (ab_c1 (fun c_18 => ?_) (ab_c1 (fun c_18 => ?_) (ab_c0)))))))) (fun c_18 => ?_)
    · replace hD := hD.1 c_18
      refine ab_aload_n (pc := 60) dX10_user_60 rfl rfl ?_
      refine xo_gr (pc := 61) (a := (1 : Nat)) dX10_user_61 fl_X10_12 (by decide) rfl rfl ?_
      refine xo_gr (pc := 64) (a := (3 : Nat)) dX10_user_64 fl_X10_65 (by decide) rfl rfl ?_
      refine ab_iload_n (pc := 67) dX10_user_67 rfl rfl ?_
      obtain ⟨o1, hD⟩ := hD
      refine ab_nat1 (ab_nat o1) ?_
      obtain ⟨o2, hD⟩ := hD
      refine xo_zld (pc := 68) dX10_user_68 (by decide) rfl o2 (by decide) ?_
      refine ab_if_eq (pc := 69) (tgt := 76) dX10_user_69 (by decide) (fun c_69 => ?_) (fun c_69 => ?_)
      · replace hD := hD.1 c_69
        refine ab_aload_n (pc := 76) dX10_user_76 rfl rfl ?_
        refine xo_gr (pc := 77) (a := (357 : Nat)) dX10_user_77 fl_X10_40 (by decide) rfl rfl ?_
        refine ab_iload_n (pc := 80) dX10_user_80 rfl rfl ?_
        obtain ⟨o3, hD⟩ := hD
        have e4 := c_X8_hasEnded (tt := tt) _ _ o3
        refine xo_invr (N := mX8_hasEnded) (pc := 81) (d' := 1) (av := [_]) dX10_user_81 ml_X10_100 fv_X8_hasEnded (by decide) (Nat.le_of_ble_eq_true rfl) (by decide) e4 ?_
        refine ab_if_eq (pc := 84) (tgt := 91) dX10_user_84 (by decide) (fun c_84 => ?_) (fun c_84 => ?_)
        · refine ab_iconst (pc := 91) (v := nI 0) dX10_user_91 (by decide) ?_
          refine xo_ir (pc := 92) dX10_user_92 rfl rfl ?_
          (rw [FX10_user]; (first | rw [if_neg c_4] | (dsimp only; rw [if_neg c_4])); (first | rw [if_pos c_18] | (dsimp only; rw [if_pos c_18])); (first | rw [if_pos c_69] | (dsimp only; rw [if_pos c_69])); (first | rw [if_pos c_84] | (dsimp only; rw [if_pos c_84])); (first | done | rfl | (dsimp only; done)))
        · refine ab_iconst (pc := 87) (v := nI 2) dX10_user_87 (by decide) ?_
          refine ab_goto (pc := 88) (tgt := 92) dX10_user_88 (by decide) ?_
          refine xo_ir (pc := 92) dX10_user_92 rfl rfl ?_
          (rw [FX10_user]; (first | rw [if_neg c_4] | (dsimp only; rw [if_neg c_4])); (first | rw [if_pos c_18] | (dsimp only; rw [if_pos c_18])); (first | rw [if_pos c_69] | (dsimp only; rw [if_pos c_69])); (first | rw [if_neg c_84] | (dsimp only; rw [if_neg c_84])); (first | done | rfl | (dsimp only; done)))
      · refine ab_iconst (pc := 72) (v := nI 1) dX10_user_72 (by decide) ?_
        refine ab_goto (pc := 73) (tgt := 92) dX10_user_73 (by decide) ?_
        refine xo_ir (pc := 92) dX10_user_92 rfl rfl ?_
        (rw [FX10_user]; (first | rw [if_neg c_4] | (dsimp only; rw [if_neg c_4])); (first | rw [if_pos c_18] | (dsimp only; rw [if_pos c_18])); (first | rw [if_neg c_69] | (dsimp only; rw [if_neg c_69])); (first | done | rfl | (dsimp only; done)))
    · replace hD := hD.2.1 c_18
      refine ab_aload_n (pc := 93) dX10_user_93 rfl rfl ?_
      refine xo_gr (pc := 94) (a := (362 : Nat)) dX10_user_94 fl_X10_47 (by decide) rfl rfl ?_
      refine ab_iload_n (pc := 97) dX10_user_97 rfl rfl ?_
      obtain ⟨o5, hD⟩ := hD
      have e6 := c_X9_hasCall (tt := tt) _ _ o5
      refine xo_invr (N := mX9_hasCall) (pc := 98) (d' := 1) (av := [_]) dX10_user_98 ml_X10_69 fv_X9_hasCall (by decide) (Nat.le_of_ble_eq_true rfl) (by decide) e6 ?_
      refine ab_if_eq (pc := 101) (tgt := 108) dX10_user_101 (by decide) (fun c_101 => ?_) (fun c_101 => ?_)
      · refine ab_iconst (pc := 108) (v := nI 0) dX10_user_108 (by decide) ?_
        refine xo_ir (pc := 109) dX10_user_109 rfl rfl ?_
        (rw [FX10_user]; (first | rw [if_neg c_4] | (dsimp only; rw [if_neg c_4])); (first | rw [if_neg (fun h => absurd (c_18.symm.trans h) (by decide))] | (dsimp only; rw [if_neg (fun h => absurd (c_18.symm.trans h) (by decide))])); (first | rw [if_pos c_18] | (dsimp only; rw [if_pos c_18])); (first | rw [if_pos c_101] | (dsimp only; rw [if_pos c_101])); (first | done | rfl | (dsimp only; done)))
      · refine ab_iconst (pc := 104) (v := nI 1) dX10_user_104 (by decide) ?_
        refine ab_goto (pc := 105) (tgt := 109) dX10_user_105 (by decide) ?_
        refine xo_ir (pc := 109) dX10_user_109 rfl rfl ?_
        (rw [FX10_user]; (first | rw [if_neg c_4] | (dsimp only; rw [if_neg c_4])); (first | rw [if_neg (fun h => absurd (c_18.symm.trans h) (by decide))] | (dsimp only; rw [if_neg (fun h => absurd (c_18.symm.trans h) (by decide))])); (first | rw [if_pos c_18] | (dsimp only; rw [if_pos c_18])); (first | rw [if_neg c_101] | (dsimp only; rw [if_neg c_101])); (first | done | rfl | (dsimp only; done)))
    · replace hD := hD.2.2.1 c_18
      refine ab_aload_n (pc := 110) dX10_user_110 rfl rfl ?_
      refine xo_gr (pc := 111) (a := (362 : Nat)) dX10_user_111 fl_X10_47 (by decide) rfl rfl ?_
      refine xo_gr (pc := 114) (a := (364 : Nat)) dX10_user_114 fl_X10_103 (by decide) rfl rfl ?_
      refine ab_iload_n (pc := 117) dX10_user_117 rfl rfl ?_
      obtain ⟨o7, hD⟩ := hD
      refine ab_nat1 (ab_nat o7) ?_
      obtain ⟨o8, hD⟩ := hD
      refine xo_ild (pc := 118) dX10_user_118 (by decide) rfl o8 (by decide) ?_
      refine xo_ir (pc := 119) dX10_user_119 rfl rfl ?_
      (rw [FX10_user]; (first | rw [if_neg c_4] | (dsimp only; rw [if_neg c_4])); (first | rw [if_neg (fun h => absurd (c_18.symm.trans h) (by decide))] | (dsimp only; rw [if_neg (fun h => absurd (c_18.symm.trans h) (by decide))])); (first | rw [if_neg (fun h => absurd (c_18.symm.trans h) (by decide))] | (dsimp only; rw [if_neg (fun h => absurd (c_18.symm.trans h) (by decide))])); (first | rw [if_pos c_18] | (dsimp only; rw [if_pos c_18])); (first | done | rfl | (dsimp only; done)))
    · replace hD := hD.2.2.2.1 c_18
      refine ab_aload_n (pc := 120) dX10_user_120 rfl rfl ?_
      refine xo_gr (pc := 121) (a := (362 : Nat)) dX10_user_121 fl_X10_47 (by decide) rfl rfl ?_
      refine xo_gr (pc := 124) (a := (365 : Nat)) dX10_user_124 fl_X10_107 (by decide) rfl rfl ?_
      refine ab_iload_n (pc := 127) dX10_user_127 rfl rfl ?_
      obtain ⟨o9, hD⟩ := hD
      refine ab_nat1 (ab_nat o9) ?_
      obtain ⟨o10, hD⟩ := hD
      refine xo_ild (pc := 128) dX10_user_128 (by decide) rfl o10 (by decide) ?_
      refine xo_ir (pc := 129) dX10_user_129 rfl rfl ?_
      (rw [FX10_user]; (first | rw [if_neg c_4] | (dsimp only; rw [if_neg c_4])); (first | rw [if_neg (fun h => absurd (c_18.symm.trans h) (by decide))] | (dsimp only; rw [if_neg (fun h => absurd (c_18.symm.trans h) (by decide))])); (first | rw [if_neg (fun h => absurd (c_18.symm.trans h) (by decide))] | (dsimp only; rw [if_neg (fun h => absurd (c_18.symm.trans h) (by decide))])); (first | rw [if_neg (fun h => absurd (c_18.symm.trans h) (by decide))] | (dsimp only; rw [if_neg (fun h => absurd (c_18.symm.trans h) (by decide))])); (first | rw [if_pos c_18] | (dsimp only; rw [if_pos c_18])); (first | done | rfl | (dsimp only; done)))
    · replace hD := hD.2.2.2.2.1 c_18
      refine ab_aload_n (pc := 130) dX10_user_130 rfl rfl ?_
      refine xo_gr (pc := 131) (a := (357 : Nat)) dX10_user_131 fl_X10_40 (by decide) rfl rfl ?_
      refine ab_iload_n (pc := 134) dX10_user_134 rfl rfl ?_
      obtain ⟨o11, hD⟩ := hD
      have e12 := c_X8_parentOf (tt := tt) _ _ o11
      refine xo_invr (N := mX8_parentOf) (pc := 135) (d' := 1) (av := [_]) dX10_user_135 ml_X10_110 fv_X8_parentOf (by decide) (Nat.le_of_ble_eq_true rfl) (by decide) e12 ?_
      refine xo_ir (pc := 138) dX10_user_138 rfl rfl ?_
      (rw [FX10_user]; (first | rw [if_neg c_4] | (dsimp only; rw [if_neg c_4])); (first | rw [if_neg (fun h => absurd (c_18.symm.trans h) (by decide))] | (dsimp only; rw [if_neg (fun h => absurd (c_18.symm.trans h) (by decide))])); (first | rw [if_neg (fun h => absurd (c_18.symm.trans h) (by decide))] | (dsimp only; rw [if_neg (fun h => absurd (c_18.symm.trans h) (by decide))])); (first | rw [if_neg (fun h => absurd (c_18.symm.trans h) (by decide))] | (dsimp only; rw [if_neg (fun h => absurd (c_18.symm.trans h) (by decide))])); (first | rw [if_neg (fun h => absurd (c_18.symm.trans h) (by decide))] | (dsimp only; rw [if_neg (fun h => absurd (c_18.symm.trans h) (by decide))])); (first | rw [if_pos c_18] | (dsimp only; rw [if_pos c_18])); (first | done | rfl | (dsimp only; done)))
    · replace hD := hD.2.2.2.2.2.1 c_18
      refine ab_aload_n (pc := 139) dX10_user_139 rfl rfl ?_
      refine xo_gr (pc := 140) (a := (357 : Nat)) dX10_user_140 fl_X10_40 (by decide) rfl rfl ?_
      refine ab_iload_n (pc := 143) dX10_user_143 rfl rfl ?_
      obtain ⟨o13, hD⟩ := hD
      have e14 := c_X8_codeOf (tt := tt) _ _ o13
      refine xo_invr (N := mX8_codeOf) (pc := 144) (d' := 1) (av := [_]) dX10_user_144 ml_X10_114 fv_X8_codeOf (by decide) (Nat.le_of_ble_eq_true rfl) (by decide) e14 ?_
      refine xo_ir (pc := 147) dX10_user_147 rfl rfl ?_
      (rw [FX10_user]; (first | rw [if_neg c_4] | (dsimp only; rw [if_neg c_4])); (first | rw [if_neg (fun h => absurd (c_18.symm.trans h) (by decide))] | (dsimp only; rw [if_neg (fun h => absurd (c_18.symm.trans h) (by decide))])); (first | rw [if_neg (fun h => absurd (c_18.symm.trans h) (by decide))] | (dsimp only; rw [if_neg (fun h => absurd (c_18.symm.trans h) (by decide))])); (first | rw [if_neg (fun h => absurd (c_18.symm.trans h) (by decide))] | (dsimp only; rw [if_neg (fun h => absurd (c_18.symm.trans h) (by decide))])); (first | rw [if_neg (fun h => absurd (c_18.symm.trans h) (by decide))] | (dsimp only; rw [if_neg (fun h => absurd (c_18.symm.trans h) (by decide))])); (first | rw [if_neg (fun h => absurd (c_18.symm.trans h) (by decide))] | (dsimp only; rw [if_neg (fun h => absurd (c_18.symm.trans h) (by decide))])); (first | rw [if_pos c_18] | (dsimp only; rw [if_pos c_18])); (first | done | rfl | (dsimp only; done)))
    · replace hD := hD.2.2.2.2.2.2.1 c_18
      refine ab_aload_n (pc := 148) dX10_user_148 rfl rfl ?_
      refine xo_gr (pc := 149) (a := (347 : Nat)) dX10_user_149 fl_X10_33 (by decide) rfl rfl ?_
      refine xo_gr (pc := 152) (a := (353 : Nat)) dX10_user_152 fl_X10_117 (by decide) rfl rfl ?_
      refine ab_iload_n (pc := 155) dX10_user_155 rfl rfl ?_
      obtain ⟨o15, hD⟩ := hD
      have e16 := c_X7_howMany (tt := tt) _ _ o15
      refine xo_invr (N := mX7_howMany) (pc := 156) (d' := 2) (av := [_]) dX10_user_156 ml_X10_121 fv_X7_howMany (by decide) (Nat.le_of_ble_eq_true rfl) (by decide) e16 ?_
      refine xo_ir (pc := 159) dX10_user_159 rfl rfl ?_
      (rw [FX10_user]; (first | rw [if_neg c_4] | (dsimp only; rw [if_neg c_4])); (first | rw [if_neg (fun h => absurd (c_18.symm.trans h) (by decide))] | (dsimp only; rw [if_neg (fun h => absurd (c_18.symm.trans h) (by decide))])); (first | rw [if_neg (fun h => absurd (c_18.symm.trans h) (by decide))] | (dsimp only; rw [if_neg (fun h => absurd (c_18.symm.trans h) (by decide))])); (first | rw [if_neg (fun h => absurd (c_18.symm.trans h) (by decide))] | (dsimp only; rw [if_neg (fun h => absurd (c_18.symm.trans h) (by decide))])); (first | rw [if_neg (fun h => absurd (c_18.symm.trans h) (by decide))] | (dsimp only; rw [if_neg (fun h => absurd (c_18.symm.trans h) (by decide))])); (first | rw [if_neg (fun h => absurd (c_18.symm.trans h) (by decide))] | (dsimp only; rw [if_neg (fun h => absurd (c_18.symm.trans h) (by decide))])); (first | rw [if_neg (fun h => absurd (c_18.symm.trans h) (by decide))] | (dsimp only; rw [if_neg (fun h => absurd (c_18.symm.trans h) (by decide))])); (first | rw [if_pos c_18] | (dsimp only; rw [if_pos c_18])); (first | done | rfl | (dsimp only; done)))
    · replace hD := hD.2.2.2.2.2.2.2 c_18
      obtain ⟨o17, hD⟩ := hD
      exact o17.elim
  · replace hD := hD.1 c_4
    obtain ⟨o18, hD⟩ := hD
    exact o18.elim
def FX10_descriptor (u : Int32) (e : Int32) (w : Int32) (x : xD) : Int32 × xD :=
  if (w) = 0 then
    ((FX7_fileAt (u) (e) x), x)
  else if (w) = 1 then
    ((FX7_placeAt (u) (e) x), x)
  else
    ((-1), x)
def DX10_descriptor (u : Int32) (e : Int32) (w : Int32) (x : xD) : Prop :=
  ((w) = 0 →
    (DX7_fileAt (u) (e) x) ∧
    True) ∧
  ((w) = 1 →
    (DX7_placeAt (u) (e) x) ∧
    True) ∧
  ((∀ c ∈ ([(0, 28), (1, 41)] : List (Int32 × Nat)), ¬ (w) = c.1) →
    True)
set_option maxRecDepth 100000 in
set_option maxHeartbeats 4000000 in
theorem c_X10_descriptor {tt : Prop} (u : Int32) (e : Int32) (w : Int32) (x : xD) (hD : DX10_descriptor u e w x) : ab_Met mX10_descriptor 3 0 0 tt [.ref (0 : Nat), .int (u), .int (e), .int (w)] (sX x) (xQi (FX10_descriptor u e w x)) := by
  refine ab_Met.of rfl (Nat.le_of_ble_eq_true rfl) ?_
  show xV mX10_descriptor 3 tt (xQi (FX10_descriptor u e w x)) 0 [some (.ref (0 : Nat)), some (.int (u)), some (.int (e)), some (.int (w))] [] x
  refine ab_iload_n (pc := 0) dX10_descriptor_0 rfl rfl ?_
  refine ab_lsw (pc := 1) [(0, 28), (1, 41)] 54 dX10_descriptor_1 (by decide +kernel) (by decide +kernel) (ab_c1 (fun c_1 => ?_) (ab_c1 (fun c_1 => ?_) (ab_c0))) (fun c_1 => ?_)
  · replace hD := hD.1 c_1
    refine ab_aload_n (pc := 28) dX10_descriptor_28 rfl rfl ?_
    refine xo_gr (pc := 29) (a := (347 : Nat)) dX10_descriptor_29 fl_X10_33 (by decide) rfl rfl ?_
    refine xo_gr (pc := 32) (a := (353 : Nat)) dX10_descriptor_32 fl_X10_117 (by decide) rfl rfl ?_
    refine ab_iload_n (pc := 35) dX10_descriptor_35 rfl rfl ?_
    refine ab_iload_n (pc := 36) dX10_descriptor_36 rfl rfl ?_
    obtain ⟨o1, hD⟩ := hD
    have e2 := c_X7_fileAt (tt := tt) _ _ _ o1
    refine xo_invr (N := mX7_fileAt) (pc := 37) (d' := 2) (av := [_, _]) dX10_descriptor_37 ml_X10_128 fv_X7_fileAt (by decide) (Nat.le_of_ble_eq_true rfl) (by decide) e2 ?_
    refine xo_ir (pc := 40) dX10_descriptor_40 rfl rfl ?_
    (rw [FX10_descriptor]; (first | rw [if_pos c_1] | (dsimp only; rw [if_pos c_1])); (first | done | rfl | (dsimp only; done)))
  · replace hD := hD.2.1 c_1
    refine ab_aload_n (pc := 41) dX10_descriptor_41 rfl rfl ?_
    refine xo_gr (pc := 42) (a := (347 : Nat)) dX10_descriptor_42 fl_X10_33 (by decide) rfl rfl ?_
    refine xo_gr (pc := 45) (a := (353 : Nat)) dX10_descriptor_45 fl_X10_117 (by decide) rfl rfl ?_
    refine ab_iload_n (pc := 48) dX10_descriptor_48 rfl rfl ?_
    refine ab_iload_n (pc := 49) dX10_descriptor_49 rfl rfl ?_
    obtain ⟨o3, hD⟩ := hD
    have e4 := c_X7_placeAt (tt := tt) _ _ _ o3
    refine xo_invr (N := mX7_placeAt) (pc := 50) (d' := 2) (av := [_, _]) dX10_descriptor_50 ml_X10_132 fv_X7_placeAt (by decide) (Nat.le_of_ble_eq_true rfl) (by decide) e4 ?_
    refine xo_ir (pc := 53) dX10_descriptor_53 rfl rfl ?_
    (rw [FX10_descriptor]; (first | rw [if_neg (fun h => absurd (c_1.symm.trans h) (by decide))] | (dsimp only; rw [if_neg (fun h => absurd (c_1.symm.trans h) (by decide))])); (first | rw [if_pos c_1] | (dsimp only; rw [if_pos c_1])); (first | done | rfl | (dsimp only; done)))
  · refine ab_iconst (pc := 54) (v := -1) dX10_descriptor_54 (by decide) ?_
    refine xo_ir (pc := 55) dX10_descriptor_55 rfl rfl ?_
    (rw [FX10_descriptor]; (first | rw [if_neg (c_1 _ (List.mem_of_getElem? (i := 0) rfl))] | (dsimp only; rw [if_neg (c_1 _ (List.mem_of_getElem? (i := 0) rfl))])); (first | rw [if_neg (c_1 _ (List.mem_of_getElem? (i := 1) rfl))] | (dsimp only; rw [if_neg (c_1 _ (List.mem_of_getElem? (i := 1) rfl))])); (first | done | rfl | (dsimp only; done)))
def FX10_file (a : Int32) (w : Int32) (x : xD) : Int32 × xD :=
  if (w) = 0 then
    ((FX4_sizeOf (a) x), x)
  else
    ((FX4_blockOf (a) (((w).toInt64) - (1)) x), x)
def DX10_file (a : Int32) (w : Int32) (x : xD) : Prop :=
  (((w) = 0) →
    (DX4_sizeOf (a) x) ∧
    True) ∧
  (¬ ((w) = 0) →
    (DX4_blockOf (a) (((w).toInt64) - (1)) x) ∧
    True)
set_option maxRecDepth 100000 in
set_option maxHeartbeats 4000000 in
theorem c_X10_file {tt : Prop} (a : Int32) (w : Int32) (x : xD) (hD : DX10_file a w x) : ab_Met mX10_file 2 0 0 tt [.ref (0 : Nat), .int (a), .int (w)] (sX x) (xQi (FX10_file a w x)) := by
  refine ab_Met.of rfl (Nat.le_of_ble_eq_true rfl) ?_
  show xV mX10_file 2 tt (xQi (FX10_file a w x)) 0 [some (.ref (0 : Nat)), some (.int (a)), some (.int (w))] [] x
  refine ab_iload_n (pc := 0) dX10_file_0 rfl rfl ?_
  refine ab_if_ne (pc := 1) (tgt := 18) dX10_file_1 (by decide) (fun c_1 => ?_) (fun c_1 => ?_)
  · replace hD := hD.2 c_1
    refine ab_aload_n (pc := 18) dX10_file_18 rfl rfl ?_
    refine xo_gr (pc := 19) (a := (347 : Nat)) dX10_file_19 fl_X10_33 (by decide) rfl rfl ?_
    refine xo_gr (pc := 22) (a := (348 : Nat)) dX10_file_22 fl_X10_135 (by decide) rfl rfl ?_
    refine ab_iload_n (pc := 25) dX10_file_25 rfl rfl ?_
    refine ab_iload_n (pc := 26) dX10_file_26 rfl rfl ?_
    refine ab_i2l (pc := 27) dX10_file_27 ?_
    refine ab_lconst (pc := 28) (v := 1) dX10_file_28 (by decide) ?_
    refine ab_lsub (pc := 29) dX10_file_29 ?_
    obtain ⟨o1, hD⟩ := hD
    have e2 := c_X4_blockOf (tt := tt) _ _ _ o1
    refine xo_invr (N := mX4_blockOf) (pc := 30) (d' := 1) (av := [_, _]) dX10_file_30 ml_X10_144 fv_X4_blockOf (by decide) (Nat.le_of_ble_eq_true rfl) (by decide) e2 ?_
    refine xo_ir (pc := 33) dX10_file_33 rfl rfl ?_
    (rw [FX10_file]; (first | rw [if_neg c_1] | (dsimp only; rw [if_neg c_1])); (first | done | rfl | (dsimp only; done)))
  · replace hD := hD.1 c_1
    refine ab_aload_n (pc := 4) dX10_file_4 rfl rfl ?_
    refine xo_gr (pc := 5) (a := (347 : Nat)) dX10_file_5 fl_X10_33 (by decide) rfl rfl ?_
    refine xo_gr (pc := 8) (a := (348 : Nat)) dX10_file_8 fl_X10_135 (by decide) rfl rfl ?_
    refine ab_iload_n (pc := 11) dX10_file_11 rfl rfl ?_
    obtain ⟨o3, hD⟩ := hD
    have e4 := c_X4_sizeOf (tt := tt) _ _ o3
    refine xo_invr (N := mX4_sizeOf) (pc := 12) (d' := 1) (av := [_]) dX10_file_12 ml_X10_139 fv_X4_sizeOf (by decide) (Nat.le_of_ble_eq_true rfl) (by decide) e4 ?_
    refine ab_goto (pc := 15) (tgt := 33) dX10_file_15 (by decide) ?_
    refine xo_ir (pc := 33) dX10_file_33 rfl rfl ?_
    (rw [FX10_file]; (first | rw [if_pos c_1] | (dsimp only; rw [if_pos c_1])); (first | done | rfl | (dsimp only; done)))
def FX10_disk (b : Int32) (k : Int32) (x : xD) : Int32 × xD :=
  if (b) < 0 then
    (0, x)
  else
    if (nI (24)) ≤ (b) then
      (0, x)
    else
      if (k) < 0 then
        (0, x)
      else
        if (k) < (nI (8)) then
          ((x.1 345 ((((b) * (nI (8))) + (k)).toNatClampNeg)), x)
        else
          (0, x)
def DX10_disk (b : Int32) (k : Int32) (x : xD) : Prop :=
  (((b) < 0) →
    (False) ∧
    True) ∧
  (¬ ((b) < 0) →
    (((nI (24)) ≤ (b)) →
      (False) ∧
      True) ∧
    (¬ ((nI (24)) ≤ (b)) →
      (((k) < 0) →
        (False) ∧
        True) ∧
      (¬ ((k) < 0) →
        (((k) < (nI (8))) →
          (¬ (((b) * (nI (8))) + (k)) < 0) ∧
          (((((b) * (nI (8))) + (k)).toNatClampNeg) < 192) ∧
          True) ∧
        (¬ ((k) < (nI (8))) →
          (False) ∧
          True))))
set_option maxRecDepth 100000 in
set_option maxHeartbeats 4000000 in
theorem c_X10_disk {tt : Prop} (b : Int32) (k : Int32) (x : xD) (hD : DX10_disk b k x) : ab_Met mX10_disk 0 0 0 tt [.ref (0 : Nat), .int (b), .int (k)] (sX x) (xQi (FX10_disk b k x)) := by
  refine ab_Met.of rfl (Nat.le_of_ble_eq_true rfl) ?_
  show xV mX10_disk 0 tt (xQi (FX10_disk b k x)) 0 [some (.ref (0 : Nat)), some (.int (b)), some (.int (k))] [] x
  refine ab_iload_n (pc := 0) dX10_disk_0 rfl rfl ?_
  refine ab_if_lt (pc := 1) (tgt := 20) dX10_disk_1 (by decide) (fun c_1 => ?_) (fun c_1 => ?_)
  · replace hD := hD.1 c_1
    obtain ⟨o1, hD⟩ := hD
    exact o1.elim
  · replace hD := hD.2 c_1
    refine ab_iload_n (pc := 4) dX10_disk_4 rfl rfl ?_
    refine ab_bipush (pc := 5) (v := nI 24) dX10_disk_5 (by decide) ?_
    refine ab_icmp_ge (pc := 7) (tgt := 20) dX10_disk_7 (by decide) (fun c_7 => ?_) (fun c_7 => ?_)
    · replace hD := hD.1 c_7
      obtain ⟨o2, hD⟩ := hD
      exact o2.elim
    · replace hD := hD.2 c_7
      refine ab_iload_n (pc := 10) dX10_disk_10 rfl rfl ?_
      refine ab_if_lt (pc := 11) (tgt := 20) dX10_disk_11 (by decide) (fun c_11 => ?_) (fun c_11 => ?_)
      · replace hD := hD.1 c_11
        obtain ⟨o3, hD⟩ := hD
        exact o3.elim
      · replace hD := hD.2 c_11
        refine ab_iload_n (pc := 14) dX10_disk_14 rfl rfl ?_
        refine ab_bipush (pc := 15) (v := nI 8) dX10_disk_15 (by decide) ?_
        refine ab_icmp_lt (pc := 17) (tgt := 30) dX10_disk_17 (by decide) (fun c_17 => ?_) (fun c_17 => ?_)
        · replace hD := hD.1 c_17
          refine ab_aload_n (pc := 30) dX10_disk_30 rfl rfl ?_
          refine xo_gr (pc := 31) (a := (344 : Nat)) dX10_disk_31 fl_X10_26 (by decide) rfl rfl ?_
          refine xo_gr (pc := 34) (a := (345 : Nat)) dX10_disk_34 fl_X10_150 (by decide) rfl rfl ?_
          refine ab_iload_n (pc := 37) dX10_disk_37 rfl rfl ?_
          refine ab_bipush (pc := 38) (v := nI 8) dX10_disk_38 (by decide) ?_
          refine ab_imul (pc := 40) dX10_disk_40 ?_
          refine ab_iload_n (pc := 41) dX10_disk_41 rfl rfl ?_
          refine ab_iadd (pc := 42) dX10_disk_42 ?_
          obtain ⟨o4, hD⟩ := hD
          refine ab_nat1 (ab_nat o4) ?_
          obtain ⟨o5, hD⟩ := hD
          refine xo_ild (pc := 43) dX10_disk_43 (by decide) rfl o5 (by decide) ?_
          refine xo_ir (pc := 44) dX10_disk_44 rfl rfl ?_
          (rw [FX10_disk]; (first | rw [if_neg c_1] | (dsimp only; rw [if_neg c_1])); (first | rw [if_neg c_7] | (dsimp only; rw [if_neg c_7])); (first | rw [if_neg c_11] | (dsimp only; rw [if_neg c_11])); (first | rw [if_pos c_17] | (dsimp only; rw [if_pos c_17])); (first | done | rfl | (dsimp only; done)))
        · replace hD := hD.2 c_17
          obtain ⟨o6, hD⟩ := hD
          exact o6.elim
def FX10_inbox (p : Int32) (x : xD) : Int32 × xD :=
  if (FX10_isPart (p)) = 0 then
    ((-1), x)
  else
    ((x.1 (7 + 28 * ((p).toNatClampNeg)) 1), x)
def DX10_inbox (p : Int32) (x : xD) : Prop :=
  (((FX10_isPart (p)) = 0) →
    True) ∧
  (¬ ((FX10_isPart (p)) = 0) →
    (¬ (p) < 0) ∧
    (((p).toNatClampNeg) < 12) ∧
    True)
set_option maxRecDepth 100000 in
set_option maxHeartbeats 4000000 in
theorem c_X10_inbox {tt : Prop} (p : Int32) (x : xD) (hD : DX10_inbox p x) : ab_Met mX10_inbox 1 0 0 tt [.ref (0 : Nat), .int (p)] (sX x) (xQi (FX10_inbox p x)) := by
  refine ab_Met.of rfl (Nat.le_of_ble_eq_true rfl) ?_
  show xV mX10_inbox 1 tt (xQi (FX10_inbox p x)) 0 [some (.ref (0 : Nat)), some (.int (p))] [] x
  refine ab_iload_n (pc := 0) dX10_inbox_0 rfl rfl ?_
  refine xo_invs (N := mX10_isPart) (pc := 1) (d' := 0) (av := [_]) dX10_inbox_1 ml_X10_90 fs_X10_isPart (Nat.le_of_ble_eq_true rfl) (by decide) (c_X10_isPart _ _ trivial) ?_
  refine ab_if_eq (pc := 4) (tgt := 22) dX10_inbox_4 (by decide) (fun c_4 => ?_) (fun c_4 => ?_)
  · refine ab_iconst (pc := 22) (v := -1) dX10_inbox_22 (by decide) ?_
    refine xo_ir (pc := 23) dX10_inbox_23 rfl rfl ?_
    (rw [FX10_inbox]; (first | rw [if_pos c_4] | (dsimp only; rw [if_pos c_4])); (first | done | rfl | (dsimp only; done)))
  · replace hD := hD.2 c_4
    refine ab_aload_n (pc := 7) dX10_inbox_7 rfl rfl ?_
    refine xo_gr (pc := 8) (a := (1 : Nat)) dX10_inbox_8 fl_X10_12 (by decide) rfl rfl ?_
    refine xo_gr (pc := 11) (a := (2 : Nat)) dX10_inbox_11 fl_X10_153 (by decide) rfl rfl ?_
    refine ab_iload_n (pc := 14) dX10_inbox_14 rfl rfl ?_
    obtain ⟨o1, hD⟩ := hD
    refine ab_nat1 (ab_nat o1) ?_
    obtain ⟨o2, hD⟩ := hD
    refine xo_ald (pc := 15) dX10_inbox_15 (by decide) (Or.inr rfl) rfl o2 (crX_box o2) ?_
    refine xo_gi (pc := 16) dX10_inbox_16 fl_X10_157 (isX_box o2) rfl ?_
    refine ab_goto (pc := 19) (tgt := 23) dX10_inbox_19 (by decide) ?_
    refine xo_ir (pc := 23) dX10_inbox_23 rfl rfl ?_
    (rw [FX10_inbox]; (first | rw [if_neg c_4] | (dsimp only; rw [if_neg c_4])); (first | done | rfl | (dsimp only; done)))
def FX10_message (p : Int32) (k : Int32) (w : Int32) (x : xD) : Int32 × xD :=
  if (FX10_isPart (p)) = 0 then
    ((-1), x)
  else
    let z5 := FX0_look (7 + 28 * ((p).toNatClampNeg)) (k) x
    ab_o z5.1 (
      ((-1), z5.2)) (fun w6 =>
      if (w) = 0 then
        ((z5.2.1 w6 1), z5.2)
      else if (w) = 1 then
        ((z5.2.1 w6 2), z5.2)
      else if (w) = 2 then
        ((z5.2.1 w6 3), z5.2)
      else if (w) = 3 then
        ((z5.2.1 w6 4), z5.2)
      else if (w) = 4 then
        ((z5.2.1 w6 5), z5.2)
      else
        ((-1), z5.2))
def DX10_message (p : Int32) (k : Int32) (w : Int32) (x : xD) : Prop :=
  (((FX10_isPart (p)) = 0) →
    True) ∧
  (¬ ((FX10_isPart (p)) = 0) →
    (¬ (p) < 0) ∧
    (((p).toNatClampNeg) < 12) ∧
    (DX0_look (7 + 28 * ((p).toNatClampNeg)) (k) x) ∧
    let z5 := FX0_look (7 + 28 * ((p).toNatClampNeg)) (k) x
    (z5.1 = none →
      True) ∧
    (∀ w6 : Nat, z5.1 = some w6 →
      ((w) = 0 →
        (isX w6 6) ∧
        True) ∧
      ((w) = 1 →
        (isX w6 6) ∧
        True) ∧
      ((w) = 2 →
        (isX w6 6) ∧
        True) ∧
      ((w) = 3 →
        (isX w6 6) ∧
        True) ∧
      ((w) = 4 →
        (isX w6 6) ∧
        True) ∧
      ((∀ c ∈ ([(0, 68), (1, 74), (2, 80), (3, 86), (4, 92)] : List (Int32 × Nat)), ¬ (w) = c.1) →
        True)))
set_option maxRecDepth 100000 in
set_option maxHeartbeats 4000000 in
theorem c_X10_message {tt : Prop} (p : Int32) (k : Int32) (w : Int32) (x : xD) (hD : DX10_message p k w x) : ab_Met mX10_message 1 0 0 tt [.ref (0 : Nat), .int (p), .int (k), .int (w)] (sX x) (xQi (FX10_message p k w x)) := by
  refine ab_Met.of rfl (Nat.le_of_ble_eq_true rfl) ?_
  show xV mX10_message 1 tt (xQi (FX10_message p k w x)) 0 [some (.ref (0 : Nat)), some (.int (p)), some (.int (k)), some (.int (w)), none] [] x
  refine ab_iload_n (pc := 0) dX10_message_0 rfl rfl ?_
  refine xo_invs (N := mX10_isPart) (pc := 1) (d' := 0) (av := [_]) dX10_message_1 ml_X10_90 fs_X10_isPart (Nat.le_of_ble_eq_true rfl) (by decide) (c_X10_isPart _ _ trivial) ?_
  refine ab_if_eq (pc := 4) (tgt := 23) dX10_message_4 (by decide) (fun c_4 => ?_) (fun c_4 => ?_)
  · refine ab_null (pc := 23) dX10_message_23 ?_
    refine ab_astoreN (pc := 24) dX10_message_24 (Nat.le_of_ble_eq_true rfl) rfl ?_
    refine ab_aloadN (pc := 26) dX10_message_26 rfl ?_
    refine ab_ifnonnullN (pc := 28) dX10_message_28 ?_
    refine ab_iconst (pc := 31) (v := -1) dX10_message_31 (by decide) ?_
    refine xo_ir (pc := 32) dX10_message_32 rfl rfl ?_
    (rw [FX10_message]; (first | rw [if_pos c_4] | (dsimp only; rw [if_pos c_4])); (first | done | rfl | (dsimp only; done)))
  · replace hD := hD.2 c_4
    refine ab_aload_n (pc := 7) dX10_message_7 rfl rfl ?_
    refine xo_gr (pc := 8) (a := (1 : Nat)) dX10_message_8 fl_X10_12 (by decide) rfl rfl ?_
    refine xo_gr (pc := 11) (a := (2 : Nat)) dX10_message_11 fl_X10_153 (by decide) rfl rfl ?_
    refine ab_iload_n (pc := 14) dX10_message_14 rfl rfl ?_
    obtain ⟨o1, hD⟩ := hD
    refine ab_nat1 (ab_nat o1) ?_
    obtain ⟨o2, hD⟩ := hD
    refine xo_ald (pc := 15) dX10_message_15 (by decide) (Or.inr rfl) rfl o2 (crX_box o2) ?_
    refine ab_iload_n (pc := 16) dX10_message_16 rfl rfl ?_
    obtain ⟨o3, hD⟩ := hD
    have e4 := c_X0_look (tt := tt) _ _ _ o3
    refine xo_invo (N := mX0_look) (pc := 17) (d' := 0) (av := [_]) dX10_message_17 ml_X10_162 fv_X0_look (isX_box o2) (Nat.le_of_ble_eq_true rfl) (by decide) e4 (fun c_17 => ?_) (fun w6 c_17 => ?_)
    · refine ab_goto (pc := 20) (tgt := 24) dX10_message_20 (by decide) ?_
      refine ab_astoreN (pc := 24) dX10_message_24 (Nat.le_of_ble_eq_true rfl) rfl ?_
      refine ab_aloadN (pc := 26) dX10_message_26 rfl ?_
      refine ab_ifnonnullN (pc := 28) dX10_message_28 ?_
      refine ab_iconst (pc := 31) (v := -1) dX10_message_31 (by decide) ?_
      refine xo_ir (pc := 32) dX10_message_32 rfl rfl ?_
      (rw [FX10_message]; (first | rw [if_neg c_4] | (dsimp only; rw [if_neg c_4])); (first | rw [ab_o_n c_17] | (dsimp only; rw [ab_o_n c_17])); (first | done | rfl | (dsimp only; done)))
    · replace hD := hD.2 w6 c_17
      refine ab_goto (pc := 20) (tgt := 24) dX10_message_20 (by decide) ?_
      refine ab_astore (pc := 24) dX10_message_24 (Nat.le_of_ble_eq_true rfl) rfl ?_
      refine ab_aload (pc := 26) dX10_message_26 rfl ?_
      refine ab_ifnonnull (pc := 28) (tgt := 33) dX10_message_28 (by decide) ?_
      refine ab_iload_n (pc := 33) dX10_message_33 rfl rfl ?_
      refine ab_tsw (pc := 34) [(0, 68), (1, 74), (2, 80), (3, 86), (4, 92)] 98 dX10_message_34 (by decide +kernel) (ab_c1 (fun c_34 => ?_) (ab_c1 (fun c_34 => ?_) (ab_c1 (fun c_34 => ?_) (ab_c1 (fun c_34 => ?_) (ab_c1 (fun c_34 => ?_) (ab_c0)))))) (fun c_34 => ?_)
      · replace hD := hD.1 c_34
        refine ab_aload (pc := 68) dX10_message_68 rfl ?_
        obtain ⟨o7, hD⟩ := hD
        refine xo_gi (pc := 70) dX10_message_70 fl_X10_166 o7 rfl ?_
        refine xo_ir (pc := 73) dX10_message_73 rfl rfl ?_
        (rw [FX10_message]; (first | rw [if_neg c_4] | (dsimp only; rw [if_neg c_4])); (first | rw [ab_o_s c_17] | (dsimp only; rw [ab_o_s c_17])); (first | rw [if_pos c_34] | (dsimp only; rw [if_pos c_34])); (first | done | rfl | (dsimp only; done)))
      · replace hD := hD.2.1 c_34
        refine ab_aload (pc := 74) dX10_message_74 rfl ?_
        obtain ⟨o8, hD⟩ := hD
        refine xo_gi (pc := 76) dX10_message_76 fl_X10_171 o8 rfl ?_
        refine xo_ir (pc := 79) dX10_message_79 rfl rfl ?_
        (rw [FX10_message]; (first | rw [if_neg c_4] | (dsimp only; rw [if_neg c_4])); (first | rw [ab_o_s c_17] | (dsimp only; rw [ab_o_s c_17])); (first | rw [if_neg (fun h => absurd (c_34.symm.trans h) (by decide))] | (dsimp only; rw [if_neg (fun h => absurd (c_34.symm.trans h) (by decide))])); (first | rw [if_pos c_34] | (dsimp only; rw [if_pos c_34])); (first | done | rfl | (dsimp only; done)))
      · replace hD := hD.2.2.1 c_34
        refine ab_aload (pc := 80) dX10_message_80 rfl ?_
        obtain ⟨o9, hD⟩ := hD
        refine xo_gi (pc := 82) dX10_message_82 fl_X10_174 o9 rfl ?_
        refine xo_ir (pc := 85) dX10_message_85 rfl rfl ?_
        (rw [FX10_message]; (first | rw [if_neg c_4] | (dsimp only; rw [if_neg c_4])); (first | rw [ab_o_s c_17] | (dsimp only; rw [ab_o_s c_17])); (first | rw [if_neg (fun h => absurd (c_34.symm.trans h) (by decide))] | (dsimp only; rw [if_neg (fun h => absurd (c_34.symm.trans h) (by decide))])); (first | rw [if_neg (fun h => absurd (c_34.symm.trans h) (by decide))] | (dsimp only; rw [if_neg (fun h => absurd (c_34.symm.trans h) (by decide))])); (first | rw [if_pos c_34] | (dsimp only; rw [if_pos c_34])); (first | done | rfl | (dsimp only; done)))
      · replace hD := hD.2.2.2.1 c_34
        refine ab_aload (pc := 86) dX10_message_86 rfl ?_
        obtain ⟨o10, hD⟩ := hD
        refine xo_gi (pc := 88) dX10_message_88 fl_X10_177 o10 rfl ?_
        refine xo_ir (pc := 91) dX10_message_91 rfl rfl ?_
        (rw [FX10_message]; (first | rw [if_neg c_4] | (dsimp only; rw [if_neg c_4])); (first | rw [ab_o_s c_17] | (dsimp only; rw [ab_o_s c_17])); (first | rw [if_neg (fun h => absurd (c_34.symm.trans h) (by decide))] | (dsimp only; rw [if_neg (fun h => absurd (c_34.symm.trans h) (by decide))])); (first | rw [if_neg (fun h => absurd (c_34.symm.trans h) (by decide))] | (dsimp only; rw [if_neg (fun h => absurd (c_34.symm.trans h) (by decide))])); (first | rw [if_neg (fun h => absurd (c_34.symm.trans h) (by decide))] | (dsimp only; rw [if_neg (fun h => absurd (c_34.symm.trans h) (by decide))])); (first | rw [if_pos c_34] | (dsimp only; rw [if_pos c_34])); (first | done | rfl | (dsimp only; done)))
      · replace hD := hD.2.2.2.2.1 c_34
        refine ab_aload (pc := 92) dX10_message_92 rfl ?_
        obtain ⟨o11, hD⟩ := hD
        refine xo_gi (pc := 94) dX10_message_94 fl_X10_180 o11 rfl ?_
        refine xo_ir (pc := 97) dX10_message_97 rfl rfl ?_
        (rw [FX10_message]; (first | rw [if_neg c_4] | (dsimp only; rw [if_neg c_4])); (first | rw [ab_o_s c_17] | (dsimp only; rw [ab_o_s c_17])); (first | rw [if_neg (fun h => absurd (c_34.symm.trans h) (by decide))] | (dsimp only; rw [if_neg (fun h => absurd (c_34.symm.trans h) (by decide))])); (first | rw [if_neg (fun h => absurd (c_34.symm.trans h) (by decide))] | (dsimp only; rw [if_neg (fun h => absurd (c_34.symm.trans h) (by decide))])); (first | rw [if_neg (fun h => absurd (c_34.symm.trans h) (by decide))] | (dsimp only; rw [if_neg (fun h => absurd (c_34.symm.trans h) (by decide))])); (first | rw [if_neg (fun h => absurd (c_34.symm.trans h) (by decide))] | (dsimp only; rw [if_neg (fun h => absurd (c_34.symm.trans h) (by decide))])); (first | rw [if_pos c_34] | (dsimp only; rw [if_pos c_34])); (first | done | rfl | (dsimp only; done)))
      · refine ab_iconst (pc := 98) (v := -1) dX10_message_98 (by decide) ?_
        refine xo_ir (pc := 99) dX10_message_99 rfl rfl ?_
        (rw [FX10_message]; (first | rw [if_neg c_4] | (dsimp only; rw [if_neg c_4])); (first | rw [ab_o_s c_17] | (dsimp only; rw [ab_o_s c_17])); (first | rw [if_neg (c_34 _ (List.mem_of_getElem? (i := 0) rfl))] | (dsimp only; rw [if_neg (c_34 _ (List.mem_of_getElem? (i := 0) rfl))])); (first | rw [if_neg (c_34 _ (List.mem_of_getElem? (i := 1) rfl))] | (dsimp only; rw [if_neg (c_34 _ (List.mem_of_getElem? (i := 1) rfl))])); (first | rw [if_neg (c_34 _ (List.mem_of_getElem? (i := 2) rfl))] | (dsimp only; rw [if_neg (c_34 _ (List.mem_of_getElem? (i := 2) rfl))])); (first | rw [if_neg (c_34 _ (List.mem_of_getElem? (i := 3) rfl))] | (dsimp only; rw [if_neg (c_34 _ (List.mem_of_getElem? (i := 3) rfl))])); (first | rw [if_neg (c_34 _ (List.mem_of_getElem? (i := 4) rfl))] | (dsimp only; rw [if_neg (c_34 _ (List.mem_of_getElem? (i := 4) rfl))])); (first | done | rfl | (dsimp only; done)))
def FX10_count (w : Int32) (x : xD) : Int32 × xD :=
  if (w) = 0 then
    ((x.1 0 6), x)
  else if (w) = 1 then
    ((x.1 0 7), x)
  else if (w) = 2 then
    ((x.1 1 4), x)
  else if (w) = 3 then
    if (x.1 3 1) = 0 then
      ((nI (0)), x)
    else
      if (x.1 344 2) = 0 then
        ((nI (1)), x)
      else
        ((nI (2)), x)
  else if (w) = 4 then
    ((x.1 344 3), x)
  else if (w) = 5 then
    if (x.1 344 4) = (-1) then
      ((nI (0)), x)
    else
      ((nI (1)), x)
  else if (w) = 6 then
    if (x.1 347 2) = 0 then
      ((nI (0)), x)
    else
      ((nI (1)), x)
  else if (w) = 7 then
    if (x.1 357 4) = 0 then
      ((nI (0)), x)
    else
      ((nI (1)), x)
  else if (w) = 8 then
    ((x.1 0 8), x)
  else if (w) = 9 then
    ((x.1 1 5), x)
  else if (w) = 10 then
    ((x.1 348 4), x)
  else if (w) = 11 then
    ((x.1 348 5), x)
  else if (w) = 12 then
    ((FX1_livingUsers  x), x)
  else if (w) = 13 then
    ((x.1 1 6), x)
  else
    ((-1), x)
def DX10_count (w : Int32) (x : xD) : Prop :=
  ((w) = 0 →
    True) ∧
  ((w) = 1 →
    True) ∧
  ((w) = 2 →
    True) ∧
  ((w) = 3 →
    True) ∧
  ((w) = 4 →
    True) ∧
  ((w) = 5 →
    True) ∧
  ((w) = 6 →
    True) ∧
  ((w) = 7 →
    True) ∧
  ((w) = 8 →
    True) ∧
  ((w) = 9 →
    True) ∧
  ((w) = 10 →
    True) ∧
  ((w) = 11 →
    True) ∧
  ((w) = 12 →
    (DX1_livingUsers  x) ∧
    True) ∧
  ((w) = 13 →
    True) ∧
  ((∀ c ∈ ([(0, 72), (1, 77), (2, 82), (3, 90), (4, 122), (5, 130), (6, 147), (7, 163), (8, 179), (9, 184), (10, 192), (11, 203), (12, 214), (13, 222)] : List (Int32 × Nat)), ¬ (w) = c.1) →
    True)
set_option maxRecDepth 100000 in
set_option maxHeartbeats 4000000 in
theorem c_X10_count {tt : Prop} (w : Int32) (x : xD) (hD : DX10_count w x) : ab_Met mX10_count 1 0 0 tt [.ref (0 : Nat), .int (w)] (sX x) (xQi (FX10_count w x)) := by
  refine ab_Met.of rfl (Nat.le_of_ble_eq_true rfl) ?_
  show xV mX10_count 1 tt (xQi (FX10_count w x)) 0 [some (.ref (0 : Nat)), some (.int (w))] [] x
  refine ab_iload_n (pc := 0) dX10_count_0 rfl rfl ?_
  refine ab_tsw (pc := 1) [(0, 72), (1, 77), (2, 82), (3, 90), (4, 122), (5, 130), (6, 147), (7, 163), (8, 179), (9, 184), (10, 192), (11, 203), (12, 214), (13, 222)] 230 dX10_count_1 (by decide +kernel) (ab_c1 (fun c_1 => ?_) (ab_c1 (fun c_1 => ?_) (ab_c1 (fun c_1 => ?_) (ab_c1 (fun c_1 => ?_) (ab_c1 (fun c_1 => ?_) (ab_c1 (fun c_1 => ?_) (ab_c1 (fun c_1 => ?_) (ab_c1 (fun c_1 => ?_) (ab_c1 (fun c_1 => ?_) (ab_c1 (fun c_1 => ?_) (ab_c1 (fun c_1 => ?_) (ab_c1 (fun c_1 => ?_) (ab_c1 (fun c_1 => ?_) (ab_c1 (fun c_1 => ?_) (ab_c0))))))))))))))) (fun c_1 => ?_)
  · refine ab_aload_n (pc := 72) dX10_count_72 rfl rfl ?_
    refine xo_gi (pc := 73) dX10_count_73 fl_X10_51 (by decide) rfl ?_
    refine xo_ir (pc := 76) dX10_count_76 rfl rfl ?_
    (rw [FX10_count]; (first | rw [if_pos c_1] | (dsimp only; rw [if_pos c_1])); (first | done | rfl | (dsimp only; done)))
  · refine ab_aload_n (pc := 77) dX10_count_77 rfl rfl ?_
    refine xo_gi (pc := 78) dX10_count_78 fl_X10_55 (by decide) rfl ?_
    refine xo_ir (pc := 81) dX10_count_81 rfl rfl ?_
    (rw [FX10_count]; (first | rw [if_neg (fun h => absurd (c_1.symm.trans h) (by decide))] | (dsimp only; rw [if_neg (fun h => absurd (c_1.symm.trans h) (by decide))])); (first | rw [if_pos c_1] | (dsimp only; rw [if_pos c_1])); (first | done | rfl | (dsimp only; done)))
  · refine ab_aload_n (pc := 82) dX10_count_82 rfl rfl ?_
    refine xo_gr (pc := 83) (a := (1 : Nat)) dX10_count_83 fl_X10_12 (by decide) rfl rfl ?_
    refine xo_gi (pc := 86) dX10_count_86 fl_X10_183 (by decide) rfl ?_
    refine xo_ir (pc := 89) dX10_count_89 rfl rfl ?_
    (rw [FX10_count]; (first | rw [if_neg (fun h => absurd (c_1.symm.trans h) (by decide))] | (dsimp only; rw [if_neg (fun h => absurd (c_1.symm.trans h) (by decide))])); (first | rw [if_neg (fun h => absurd (c_1.symm.trans h) (by decide))] | (dsimp only; rw [if_neg (fun h => absurd (c_1.symm.trans h) (by decide))])); (first | rw [if_pos c_1] | (dsimp only; rw [if_pos c_1])); (first | done | rfl | (dsimp only; done)))
  · refine ab_aload_n (pc := 90) dX10_count_90 rfl rfl ?_
    refine xo_gr (pc := 91) (a := (1 : Nat)) dX10_count_91 fl_X10_12 (by decide) rfl rfl ?_
    refine xo_gr (pc := 94) (a := (3 : Nat)) dX10_count_94 fl_X10_65 (by decide) rfl rfl ?_
    refine ab_iconst (pc := 97) (v := nI 1) dX10_count_97 (by decide) ?_
    refine xo_zld (pc := 98) dX10_count_98 (by decide) rfl (by decide) (by decide) ?_
    refine ab_if_ne (pc := 99) (tgt := 106) dX10_count_99 (by decide) (fun c_99 => ?_) (fun c_99 => ?_)
    · refine ab_aload_n (pc := 106) dX10_count_106 rfl rfl ?_
      refine xo_gr (pc := 107) (a := (344 : Nat)) dX10_count_107 fl_X10_26 (by decide) rfl rfl ?_
      refine xo_gi (pc := 110) dX10_count_110 fl_X10_86 (by decide) rfl ?_
      refine ab_if_eq (pc := 113) (tgt := 120) dX10_count_113 (by decide) (fun c_113 => ?_) (fun c_113 => ?_)
      · refine ab_iconst (pc := 120) (v := nI 1) dX10_count_120 (by decide) ?_
        refine xo_ir (pc := 121) dX10_count_121 rfl rfl ?_
        (rw [FX10_count]; (first | rw [if_neg (fun h => absurd (c_1.symm.trans h) (by decide))] | (dsimp only; rw [if_neg (fun h => absurd (c_1.symm.trans h) (by decide))])); (first | rw [if_neg (fun h => absurd (c_1.symm.trans h) (by decide))] | (dsimp only; rw [if_neg (fun h => absurd (c_1.symm.trans h) (by decide))])); (first | rw [if_neg (fun h => absurd (c_1.symm.trans h) (by decide))] | (dsimp only; rw [if_neg (fun h => absurd (c_1.symm.trans h) (by decide))])); (first | rw [if_pos c_1] | (dsimp only; rw [if_pos c_1])); (first | rw [if_neg c_99] | (dsimp only; rw [if_neg c_99])); (first | rw [if_pos c_113] | (dsimp only; rw [if_pos c_113])); (first | done | rfl | (dsimp only; done)))
      · refine ab_iconst (pc := 116) (v := nI 2) dX10_count_116 (by decide) ?_
        refine ab_goto (pc := 117) (tgt := 121) dX10_count_117 (by decide) ?_
        refine xo_ir (pc := 121) dX10_count_121 rfl rfl ?_
        (rw [FX10_count]; (first | rw [if_neg (fun h => absurd (c_1.symm.trans h) (by decide))] | (dsimp only; rw [if_neg (fun h => absurd (c_1.symm.trans h) (by decide))])); (first | rw [if_neg (fun h => absurd (c_1.symm.trans h) (by decide))] | (dsimp only; rw [if_neg (fun h => absurd (c_1.symm.trans h) (by decide))])); (first | rw [if_neg (fun h => absurd (c_1.symm.trans h) (by decide))] | (dsimp only; rw [if_neg (fun h => absurd (c_1.symm.trans h) (by decide))])); (first | rw [if_pos c_1] | (dsimp only; rw [if_pos c_1])); (first | rw [if_neg c_99] | (dsimp only; rw [if_neg c_99])); (first | rw [if_neg c_113] | (dsimp only; rw [if_neg c_113])); (first | done | rfl | (dsimp only; done)))
    · refine ab_iconst (pc := 102) (v := nI 0) dX10_count_102 (by decide) ?_
      refine ab_goto (pc := 103) (tgt := 121) dX10_count_103 (by decide) ?_
      refine xo_ir (pc := 121) dX10_count_121 rfl rfl ?_
      (rw [FX10_count]; (first | rw [if_neg (fun h => absurd (c_1.symm.trans h) (by decide))] | (dsimp only; rw [if_neg (fun h => absurd (c_1.symm.trans h) (by decide))])); (first | rw [if_neg (fun h => absurd (c_1.symm.trans h) (by decide))] | (dsimp only; rw [if_neg (fun h => absurd (c_1.symm.trans h) (by decide))])); (first | rw [if_neg (fun h => absurd (c_1.symm.trans h) (by decide))] | (dsimp only; rw [if_neg (fun h => absurd (c_1.symm.trans h) (by decide))])); (first | rw [if_pos c_1] | (dsimp only; rw [if_pos c_1])); (first | rw [if_pos c_99] | (dsimp only; rw [if_pos c_99])); (first | done | rfl | (dsimp only; done)))
  · refine ab_aload_n (pc := 122) dX10_count_122 rfl rfl ?_
    refine xo_gr (pc := 123) (a := (344 : Nat)) dX10_count_123 fl_X10_26 (by decide) rfl rfl ?_
    refine xo_gi (pc := 126) dX10_count_126 fl_X10_186 (by decide) rfl ?_
    refine xo_ir (pc := 129) dX10_count_129 rfl rfl ?_
    (rw [FX10_count]; (first | rw [if_neg (fun h => absurd (c_1.symm.trans h) (by decide))] | (dsimp only; rw [if_neg (fun h => absurd (c_1.symm.trans h) (by decide))])); (first | rw [if_neg (fun h => absurd (c_1.symm.trans h) (by decide))] | (dsimp only; rw [if_neg (fun h => absurd (c_1.symm.trans h) (by decide))])); (first | rw [if_neg (fun h => absurd (c_1.symm.trans h) (by decide))] | (dsimp only; rw [if_neg (fun h => absurd (c_1.symm.trans h) (by decide))])); (first | rw [if_neg (fun h => absurd (c_1.symm.trans h) (by decide))] | (dsimp only; rw [if_neg (fun h => absurd (c_1.symm.trans h) (by decide))])); (first | rw [if_pos c_1] | (dsimp only; rw [if_pos c_1])); (first | done | rfl | (dsimp only; done)))
  · refine ab_aload_n (pc := 130) dX10_count_130 rfl rfl ?_
    refine xo_gr (pc := 131) (a := (344 : Nat)) dX10_count_131 fl_X10_26 (by decide) rfl rfl ?_
    refine xo_gi (pc := 134) dX10_count_134 fl_X10_189 (by decide) rfl ?_
    refine ab_iconst (pc := 137) (v := -1) dX10_count_137 (by decide) ?_
    refine ab_icmp_ne (pc := 138) (tgt := 145) dX10_count_138 (by decide) (fun c_138 => ?_) (fun c_138 => ?_)
    · refine ab_iconst (pc := 145) (v := nI 1) dX10_count_145 (by decide) ?_
      refine xo_ir (pc := 146) dX10_count_146 rfl rfl ?_
      (rw [FX10_count]; (first | rw [if_neg (fun h => absurd (c_1.symm.trans h) (by decide))] | (dsimp only; rw [if_neg (fun h => absurd (c_1.symm.trans h) (by decide))])); (first | rw [if_neg (fun h => absurd (c_1.symm.trans h) (by decide))] | (dsimp only; rw [if_neg (fun h => absurd (c_1.symm.trans h) (by decide))])); (first | rw [if_neg (fun h => absurd (c_1.symm.trans h) (by decide))] | (dsimp only; rw [if_neg (fun h => absurd (c_1.symm.trans h) (by decide))])); (first | rw [if_neg (fun h => absurd (c_1.symm.trans h) (by decide))] | (dsimp only; rw [if_neg (fun h => absurd (c_1.symm.trans h) (by decide))])); (first | rw [if_neg (fun h => absurd (c_1.symm.trans h) (by decide))] | (dsimp only; rw [if_neg (fun h => absurd (c_1.symm.trans h) (by decide))])); (first | rw [if_pos c_1] | (dsimp only; rw [if_pos c_1])); (first | rw [if_neg c_138] | (dsimp only; rw [if_neg c_138])); (first | done | rfl | (dsimp only; done)))
    · refine ab_iconst (pc := 141) (v := nI 0) dX10_count_141 (by decide) ?_
      refine ab_goto (pc := 142) (tgt := 146) dX10_count_142 (by decide) ?_
      refine xo_ir (pc := 146) dX10_count_146 rfl rfl ?_
      (rw [FX10_count]; (first | rw [if_neg (fun h => absurd (c_1.symm.trans h) (by decide))] | (dsimp only; rw [if_neg (fun h => absurd (c_1.symm.trans h) (by decide))])); (first | rw [if_neg (fun h => absurd (c_1.symm.trans h) (by decide))] | (dsimp only; rw [if_neg (fun h => absurd (c_1.symm.trans h) (by decide))])); (first | rw [if_neg (fun h => absurd (c_1.symm.trans h) (by decide))] | (dsimp only; rw [if_neg (fun h => absurd (c_1.symm.trans h) (by decide))])); (first | rw [if_neg (fun h => absurd (c_1.symm.trans h) (by decide))] | (dsimp only; rw [if_neg (fun h => absurd (c_1.symm.trans h) (by decide))])); (first | rw [if_neg (fun h => absurd (c_1.symm.trans h) (by decide))] | (dsimp only; rw [if_neg (fun h => absurd (c_1.symm.trans h) (by decide))])); (first | rw [if_pos c_1] | (dsimp only; rw [if_pos c_1])); (first | rw [if_pos c_138] | (dsimp only; rw [if_pos c_138])); (first | done | rfl | (dsimp only; done)))
  · refine ab_aload_n (pc := 147) dX10_count_147 rfl rfl ?_
    refine xo_gr (pc := 148) (a := (347 : Nat)) dX10_count_148 fl_X10_33 (by decide) rfl rfl ?_
    refine xo_gi (pc := 151) dX10_count_151 fl_X10_192 (by decide) rfl ?_
    refine ab_if_eq (pc := 154) (tgt := 161) dX10_count_154 (by decide) (fun c_154 => ?_) (fun c_154 => ?_)
    · refine ab_iconst (pc := 161) (v := nI 0) dX10_count_161 (by decide) ?_
      refine xo_ir (pc := 162) dX10_count_162 rfl rfl ?_
      (rw [FX10_count]; (first | rw [if_neg (fun h => absurd (c_1.symm.trans h) (by decide))] | (dsimp only; rw [if_neg (fun h => absurd (c_1.symm.trans h) (by decide))])); (first | rw [if_neg (fun h => absurd (c_1.symm.trans h) (by decide))] | (dsimp only; rw [if_neg (fun h => absurd (c_1.symm.trans h) (by decide))])); (first | rw [if_neg (fun h => absurd (c_1.symm.trans h) (by decide))] | (dsimp only; rw [if_neg (fun h => absurd (c_1.symm.trans h) (by decide))])); (first | rw [if_neg (fun h => absurd (c_1.symm.trans h) (by decide))] | (dsimp only; rw [if_neg (fun h => absurd (c_1.symm.trans h) (by decide))])); (first | rw [if_neg (fun h => absurd (c_1.symm.trans h) (by decide))] | (dsimp only; rw [if_neg (fun h => absurd (c_1.symm.trans h) (by decide))])); (first | rw [if_neg (fun h => absurd (c_1.symm.trans h) (by decide))] | (dsimp only; rw [if_neg (fun h => absurd (c_1.symm.trans h) (by decide))])); (first | rw [if_pos c_1] | (dsimp only; rw [if_pos c_1])); (first | rw [if_pos c_154] | (dsimp only; rw [if_pos c_154])); (first | done | rfl | (dsimp only; done)))
    · refine ab_iconst (pc := 157) (v := nI 1) dX10_count_157 (by decide) ?_
      refine ab_goto (pc := 158) (tgt := 162) dX10_count_158 (by decide) ?_
      refine xo_ir (pc := 162) dX10_count_162 rfl rfl ?_
      (rw [FX10_count]; (first | rw [if_neg (fun h => absurd (c_1.symm.trans h) (by decide))] | (dsimp only; rw [if_neg (fun h => absurd (c_1.symm.trans h) (by decide))])); (first | rw [if_neg (fun h => absurd (c_1.symm.trans h) (by decide))] | (dsimp only; rw [if_neg (fun h => absurd (c_1.symm.trans h) (by decide))])); (first | rw [if_neg (fun h => absurd (c_1.symm.trans h) (by decide))] | (dsimp only; rw [if_neg (fun h => absurd (c_1.symm.trans h) (by decide))])); (first | rw [if_neg (fun h => absurd (c_1.symm.trans h) (by decide))] | (dsimp only; rw [if_neg (fun h => absurd (c_1.symm.trans h) (by decide))])); (first | rw [if_neg (fun h => absurd (c_1.symm.trans h) (by decide))] | (dsimp only; rw [if_neg (fun h => absurd (c_1.symm.trans h) (by decide))])); (first | rw [if_neg (fun h => absurd (c_1.symm.trans h) (by decide))] | (dsimp only; rw [if_neg (fun h => absurd (c_1.symm.trans h) (by decide))])); (first | rw [if_pos c_1] | (dsimp only; rw [if_pos c_1])); (first | rw [if_neg c_154] | (dsimp only; rw [if_neg c_154])); (first | done | rfl | (dsimp only; done)))
  · refine ab_aload_n (pc := 163) dX10_count_163 rfl rfl ?_
    refine xo_gr (pc := 164) (a := (357 : Nat)) dX10_count_164 fl_X10_40 (by decide) rfl rfl ?_
    refine xo_gi (pc := 167) dX10_count_167 fl_X10_195 (by decide) rfl ?_
    refine ab_if_eq (pc := 170) (tgt := 177) dX10_count_170 (by decide) (fun c_170 => ?_) (fun c_170 => ?_)
    · refine ab_iconst (pc := 177) (v := nI 0) dX10_count_177 (by decide) ?_
      refine xo_ir (pc := 178) dX10_count_178 rfl rfl ?_
      (rw [FX10_count]; (first | rw [if_neg (fun h => absurd (c_1.symm.trans h) (by decide))] | (dsimp only; rw [if_neg (fun h => absurd (c_1.symm.trans h) (by decide))])); (first | rw [if_neg (fun h => absurd (c_1.symm.trans h) (by decide))] | (dsimp only; rw [if_neg (fun h => absurd (c_1.symm.trans h) (by decide))])); (first | rw [if_neg (fun h => absurd (c_1.symm.trans h) (by decide))] | (dsimp only; rw [if_neg (fun h => absurd (c_1.symm.trans h) (by decide))])); (first | rw [if_neg (fun h => absurd (c_1.symm.trans h) (by decide))] | (dsimp only; rw [if_neg (fun h => absurd (c_1.symm.trans h) (by decide))])); (first | rw [if_neg (fun h => absurd (c_1.symm.trans h) (by decide))] | (dsimp only; rw [if_neg (fun h => absurd (c_1.symm.trans h) (by decide))])); (first | rw [if_neg (fun h => absurd (c_1.symm.trans h) (by decide))] | (dsimp only; rw [if_neg (fun h => absurd (c_1.symm.trans h) (by decide))])); (first | rw [if_neg (fun h => absurd (c_1.symm.trans h) (by decide))] | (dsimp only; rw [if_neg (fun h => absurd (c_1.symm.trans h) (by decide))])); (first | rw [if_pos c_1] | (dsimp only; rw [if_pos c_1])); (first | rw [if_pos c_170] | (dsimp only; rw [if_pos c_170])); (first | done | rfl | (dsimp only; done)))
    · refine ab_iconst (pc := 173) (v := nI 1) dX10_count_173 (by decide) ?_
      refine ab_goto (pc := 174) (tgt := 178) dX10_count_174 (by decide) ?_
      refine xo_ir (pc := 178) dX10_count_178 rfl rfl ?_
      (rw [FX10_count]; (first | rw [if_neg (fun h => absurd (c_1.symm.trans h) (by decide))] | (dsimp only; rw [if_neg (fun h => absurd (c_1.symm.trans h) (by decide))])); (first | rw [if_neg (fun h => absurd (c_1.symm.trans h) (by decide))] | (dsimp only; rw [if_neg (fun h => absurd (c_1.symm.trans h) (by decide))])); (first | rw [if_neg (fun h => absurd (c_1.symm.trans h) (by decide))] | (dsimp only; rw [if_neg (fun h => absurd (c_1.symm.trans h) (by decide))])); (first | rw [if_neg (fun h => absurd (c_1.symm.trans h) (by decide))] | (dsimp only; rw [if_neg (fun h => absurd (c_1.symm.trans h) (by decide))])); (first | rw [if_neg (fun h => absurd (c_1.symm.trans h) (by decide))] | (dsimp only; rw [if_neg (fun h => absurd (c_1.symm.trans h) (by decide))])); (first | rw [if_neg (fun h => absurd (c_1.symm.trans h) (by decide))] | (dsimp only; rw [if_neg (fun h => absurd (c_1.symm.trans h) (by decide))])); (first | rw [if_neg (fun h => absurd (c_1.symm.trans h) (by decide))] | (dsimp only; rw [if_neg (fun h => absurd (c_1.symm.trans h) (by decide))])); (first | rw [if_pos c_1] | (dsimp only; rw [if_pos c_1])); (first | rw [if_neg c_170] | (dsimp only; rw [if_neg c_170])); (first | done | rfl | (dsimp only; done)))
  · refine ab_aload_n (pc := 179) dX10_count_179 rfl rfl ?_
    refine xo_gi (pc := 180) dX10_count_180 fl_X10_58 (by decide) rfl ?_
    refine xo_ir (pc := 183) dX10_count_183 rfl rfl ?_
    (rw [FX10_count]; (first | rw [if_neg (fun h => absurd (c_1.symm.trans h) (by decide))] | (dsimp only; rw [if_neg (fun h => absurd (c_1.symm.trans h) (by decide))])); (first | rw [if_neg (fun h => absurd (c_1.symm.trans h) (by decide))] | (dsimp only; rw [if_neg (fun h => absurd (c_1.symm.trans h) (by decide))])); (first | rw [if_neg (fun h => absurd (c_1.symm.trans h) (by decide))] | (dsimp only; rw [if_neg (fun h => absurd (c_1.symm.trans h) (by decide))])); (first | rw [if_neg (fun h => absurd (c_1.symm.trans h) (by decide))] | (dsimp only; rw [if_neg (fun h => absurd (c_1.symm.trans h) (by decide))])); (first | rw [if_neg (fun h => absurd (c_1.symm.trans h) (by decide))] | (dsimp only; rw [if_neg (fun h => absurd (c_1.symm.trans h) (by decide))])); (first | rw [if_neg (fun h => absurd (c_1.symm.trans h) (by decide))] | (dsimp only; rw [if_neg (fun h => absurd (c_1.symm.trans h) (by decide))])); (first | rw [if_neg (fun h => absurd (c_1.symm.trans h) (by decide))] | (dsimp only; rw [if_neg (fun h => absurd (c_1.symm.trans h) (by decide))])); (first | rw [if_neg (fun h => absurd (c_1.symm.trans h) (by decide))] | (dsimp only; rw [if_neg (fun h => absurd (c_1.symm.trans h) (by decide))])); (first | rw [if_pos c_1] | (dsimp only; rw [if_pos c_1])); (first | done | rfl | (dsimp only; done)))
  · refine ab_aload_n (pc := 184) dX10_count_184 rfl rfl ?_
    refine xo_gr (pc := 185) (a := (1 : Nat)) dX10_count_185 fl_X10_12 (by decide) rfl rfl ?_
    refine xo_gi (pc := 188) dX10_count_188 fl_X10_196 (by decide) rfl ?_
    refine xo_ir (pc := 191) dX10_count_191 rfl rfl ?_
    (rw [FX10_count]; (first | rw [if_neg (fun h => absurd (c_1.symm.trans h) (by decide))] | (dsimp only; rw [if_neg (fun h => absurd (c_1.symm.trans h) (by decide))])); (first | rw [if_neg (fun h => absurd (c_1.symm.trans h) (by decide))] | (dsimp only; rw [if_neg (fun h => absurd (c_1.symm.trans h) (by decide))])); (first | rw [if_neg (fun h => absurd (c_1.symm.trans h) (by decide))] | (dsimp only; rw [if_neg (fun h => absurd (c_1.symm.trans h) (by decide))])); (first | rw [if_neg (fun h => absurd (c_1.symm.trans h) (by decide))] | (dsimp only; rw [if_neg (fun h => absurd (c_1.symm.trans h) (by decide))])); (first | rw [if_neg (fun h => absurd (c_1.symm.trans h) (by decide))] | (dsimp only; rw [if_neg (fun h => absurd (c_1.symm.trans h) (by decide))])); (first | rw [if_neg (fun h => absurd (c_1.symm.trans h) (by decide))] | (dsimp only; rw [if_neg (fun h => absurd (c_1.symm.trans h) (by decide))])); (first | rw [if_neg (fun h => absurd (c_1.symm.trans h) (by decide))] | (dsimp only; rw [if_neg (fun h => absurd (c_1.symm.trans h) (by decide))])); (first | rw [if_neg (fun h => absurd (c_1.symm.trans h) (by decide))] | (dsimp only; rw [if_neg (fun h => absurd (c_1.symm.trans h) (by decide))])); (first | rw [if_neg (fun h => absurd (c_1.symm.trans h) (by decide))] | (dsimp only; rw [if_neg (fun h => absurd (c_1.symm.trans h) (by decide))])); (first | rw [if_pos c_1] | (dsimp only; rw [if_pos c_1])); (first | done | rfl | (dsimp only; done)))
  · refine ab_aload_n (pc := 192) dX10_count_192 rfl rfl ?_
    refine xo_gr (pc := 193) (a := (347 : Nat)) dX10_count_193 fl_X10_33 (by decide) rfl rfl ?_
    refine xo_gr (pc := 196) (a := (348 : Nat)) dX10_count_196 fl_X10_135 (by decide) rfl rfl ?_
    refine xo_gi (pc := 199) dX10_count_199 fl_X10_199 (by decide) rfl ?_
    refine xo_ir (pc := 202) dX10_count_202 rfl rfl ?_
    (rw [FX10_count]; (first | rw [if_neg (fun h => absurd (c_1.symm.trans h) (by decide))] | (dsimp only; rw [if_neg (fun h => absurd (c_1.symm.trans h) (by decide))])); (first | rw [if_neg (fun h => absurd (c_1.symm.trans h) (by decide))] | (dsimp only; rw [if_neg (fun h => absurd (c_1.symm.trans h) (by decide))])); (first | rw [if_neg (fun h => absurd (c_1.symm.trans h) (by decide))] | (dsimp only; rw [if_neg (fun h => absurd (c_1.symm.trans h) (by decide))])); (first | rw [if_neg (fun h => absurd (c_1.symm.trans h) (by decide))] | (dsimp only; rw [if_neg (fun h => absurd (c_1.symm.trans h) (by decide))])); (first | rw [if_neg (fun h => absurd (c_1.symm.trans h) (by decide))] | (dsimp only; rw [if_neg (fun h => absurd (c_1.symm.trans h) (by decide))])); (first | rw [if_neg (fun h => absurd (c_1.symm.trans h) (by decide))] | (dsimp only; rw [if_neg (fun h => absurd (c_1.symm.trans h) (by decide))])); (first | rw [if_neg (fun h => absurd (c_1.symm.trans h) (by decide))] | (dsimp only; rw [if_neg (fun h => absurd (c_1.symm.trans h) (by decide))])); (first | rw [if_neg (fun h => absurd (c_1.symm.trans h) (by decide))] | (dsimp only; rw [if_neg (fun h => absurd (c_1.symm.trans h) (by decide))])); (first | rw [if_neg (fun h => absurd (c_1.symm.trans h) (by decide))] | (dsimp only; rw [if_neg (fun h => absurd (c_1.symm.trans h) (by decide))])); (first | rw [if_neg (fun h => absurd (c_1.symm.trans h) (by decide))] | (dsimp only; rw [if_neg (fun h => absurd (c_1.symm.trans h) (by decide))])); (first | rw [if_pos c_1] | (dsimp only; rw [if_pos c_1])); (first | done | rfl | (dsimp only; done)))
  · refine ab_aload_n (pc := 203) dX10_count_203 rfl rfl ?_
    refine xo_gr (pc := 204) (a := (347 : Nat)) dX10_count_204 fl_X10_33 (by decide) rfl rfl ?_
    refine xo_gr (pc := 207) (a := (348 : Nat)) dX10_count_207 fl_X10_135 (by decide) rfl rfl ?_
    refine xo_gi (pc := 210) dX10_count_210 fl_X10_201 (by decide) rfl ?_
    refine xo_ir (pc := 213) dX10_count_213 rfl rfl ?_
    (rw [FX10_count]; (first | rw [if_neg (fun h => absurd (c_1.symm.trans h) (by decide))] | (dsimp only; rw [if_neg (fun h => absurd (c_1.symm.trans h) (by decide))])); (first | rw [if_neg (fun h => absurd (c_1.symm.trans h) (by decide))] | (dsimp only; rw [if_neg (fun h => absurd (c_1.symm.trans h) (by decide))])); (first | rw [if_neg (fun h => absurd (c_1.symm.trans h) (by decide))] | (dsimp only; rw [if_neg (fun h => absurd (c_1.symm.trans h) (by decide))])); (first | rw [if_neg (fun h => absurd (c_1.symm.trans h) (by decide))] | (dsimp only; rw [if_neg (fun h => absurd (c_1.symm.trans h) (by decide))])); (first | rw [if_neg (fun h => absurd (c_1.symm.trans h) (by decide))] | (dsimp only; rw [if_neg (fun h => absurd (c_1.symm.trans h) (by decide))])); (first | rw [if_neg (fun h => absurd (c_1.symm.trans h) (by decide))] | (dsimp only; rw [if_neg (fun h => absurd (c_1.symm.trans h) (by decide))])); (first | rw [if_neg (fun h => absurd (c_1.symm.trans h) (by decide))] | (dsimp only; rw [if_neg (fun h => absurd (c_1.symm.trans h) (by decide))])); (first | rw [if_neg (fun h => absurd (c_1.symm.trans h) (by decide))] | (dsimp only; rw [if_neg (fun h => absurd (c_1.symm.trans h) (by decide))])); (first | rw [if_neg (fun h => absurd (c_1.symm.trans h) (by decide))] | (dsimp only; rw [if_neg (fun h => absurd (c_1.symm.trans h) (by decide))])); (first | rw [if_neg (fun h => absurd (c_1.symm.trans h) (by decide))] | (dsimp only; rw [if_neg (fun h => absurd (c_1.symm.trans h) (by decide))])); (first | rw [if_neg (fun h => absurd (c_1.symm.trans h) (by decide))] | (dsimp only; rw [if_neg (fun h => absurd (c_1.symm.trans h) (by decide))])); (first | rw [if_pos c_1] | (dsimp only; rw [if_pos c_1])); (first | done | rfl | (dsimp only; done)))
  · replace hD := hD.2.2.2.2.2.2.2.2.2.2.2.2.1 c_1
    refine ab_aload_n (pc := 214) dX10_count_214 rfl rfl ?_
    refine xo_gr (pc := 215) (a := (1 : Nat)) dX10_count_215 fl_X10_12 (by decide) rfl rfl ?_
    obtain ⟨o1, hD⟩ := hD
    have e2 := c_X1_livingUsers (tt := tt)  _ o1
    refine xo_invr (N := mX1_livingUsers) (pc := 218) (d' := 0) (av := []) dX10_count_218 ml_X10_204 fv_X1_livingUsers (by decide) (Nat.le_of_ble_eq_true rfl) (by decide) e2 ?_
    refine xo_ir (pc := 221) dX10_count_221 rfl rfl ?_
    (rw [FX10_count]; (first | rw [if_neg (fun h => absurd (c_1.symm.trans h) (by decide))] | (dsimp only; rw [if_neg (fun h => absurd (c_1.symm.trans h) (by decide))])); (first | rw [if_neg (fun h => absurd (c_1.symm.trans h) (by decide))] | (dsimp only; rw [if_neg (fun h => absurd (c_1.symm.trans h) (by decide))])); (first | rw [if_neg (fun h => absurd (c_1.symm.trans h) (by decide))] | (dsimp only; rw [if_neg (fun h => absurd (c_1.symm.trans h) (by decide))])); (first | rw [if_neg (fun h => absurd (c_1.symm.trans h) (by decide))] | (dsimp only; rw [if_neg (fun h => absurd (c_1.symm.trans h) (by decide))])); (first | rw [if_neg (fun h => absurd (c_1.symm.trans h) (by decide))] | (dsimp only; rw [if_neg (fun h => absurd (c_1.symm.trans h) (by decide))])); (first | rw [if_neg (fun h => absurd (c_1.symm.trans h) (by decide))] | (dsimp only; rw [if_neg (fun h => absurd (c_1.symm.trans h) (by decide))])); (first | rw [if_neg (fun h => absurd (c_1.symm.trans h) (by decide))] | (dsimp only; rw [if_neg (fun h => absurd (c_1.symm.trans h) (by decide))])); (first | rw [if_neg (fun h => absurd (c_1.symm.trans h) (by decide))] | (dsimp only; rw [if_neg (fun h => absurd (c_1.symm.trans h) (by decide))])); (first | rw [if_neg (fun h => absurd (c_1.symm.trans h) (by decide))] | (dsimp only; rw [if_neg (fun h => absurd (c_1.symm.trans h) (by decide))])); (first | rw [if_neg (fun h => absurd (c_1.symm.trans h) (by decide))] | (dsimp only; rw [if_neg (fun h => absurd (c_1.symm.trans h) (by decide))])); (first | rw [if_neg (fun h => absurd (c_1.symm.trans h) (by decide))] | (dsimp only; rw [if_neg (fun h => absurd (c_1.symm.trans h) (by decide))])); (first | rw [if_neg (fun h => absurd (c_1.symm.trans h) (by decide))] | (dsimp only; rw [if_neg (fun h => absurd (c_1.symm.trans h) (by decide))])); (first | rw [if_pos c_1] | (dsimp only; rw [if_pos c_1])); (first | done | rfl | (dsimp only; done)))
  · refine ab_aload_n (pc := 222) dX10_count_222 rfl rfl ?_
    refine xo_gr (pc := 223) (a := (1 : Nat)) dX10_count_223 fl_X10_12 (by decide) rfl rfl ?_
    refine xo_gi (pc := 226) dX10_count_226 fl_X10_208 (by decide) rfl ?_
    refine xo_ir (pc := 229) dX10_count_229 rfl rfl ?_
    (rw [FX10_count]; (first | rw [if_neg (fun h => absurd (c_1.symm.trans h) (by decide))] | (dsimp only; rw [if_neg (fun h => absurd (c_1.symm.trans h) (by decide))])); (first | rw [if_neg (fun h => absurd (c_1.symm.trans h) (by decide))] | (dsimp only; rw [if_neg (fun h => absurd (c_1.symm.trans h) (by decide))])); (first | rw [if_neg (fun h => absurd (c_1.symm.trans h) (by decide))] | (dsimp only; rw [if_neg (fun h => absurd (c_1.symm.trans h) (by decide))])); (first | rw [if_neg (fun h => absurd (c_1.symm.trans h) (by decide))] | (dsimp only; rw [if_neg (fun h => absurd (c_1.symm.trans h) (by decide))])); (first | rw [if_neg (fun h => absurd (c_1.symm.trans h) (by decide))] | (dsimp only; rw [if_neg (fun h => absurd (c_1.symm.trans h) (by decide))])); (first | rw [if_neg (fun h => absurd (c_1.symm.trans h) (by decide))] | (dsimp only; rw [if_neg (fun h => absurd (c_1.symm.trans h) (by decide))])); (first | rw [if_neg (fun h => absurd (c_1.symm.trans h) (by decide))] | (dsimp only; rw [if_neg (fun h => absurd (c_1.symm.trans h) (by decide))])); (first | rw [if_neg (fun h => absurd (c_1.symm.trans h) (by decide))] | (dsimp only; rw [if_neg (fun h => absurd (c_1.symm.trans h) (by decide))])); (first | rw [if_neg (fun h => absurd (c_1.symm.trans h) (by decide))] | (dsimp only; rw [if_neg (fun h => absurd (c_1.symm.trans h) (by decide))])); (first | rw [if_neg (fun h => absurd (c_1.symm.trans h) (by decide))] | (dsimp only; rw [if_neg (fun h => absurd (c_1.symm.trans h) (by decide))])); (first | rw [if_neg (fun h => absurd (c_1.symm.trans h) (by decide))] | (dsimp only; rw [if_neg (fun h => absurd (c_1.symm.trans h) (by decide))])); (first | rw [if_neg (fun h => absurd (c_1.symm.trans h) (by decide))] | (dsimp only; rw [if_neg (fun h => absurd (c_1.symm.trans h) (by decide))])); (first | rw [if_neg (fun h => absurd (c_1.symm.trans h) (by decide))] | (dsimp only; rw [if_neg (fun h => absurd (c_1.symm.trans h) (by decide))])); (first | rw [if_pos c_1] | (dsimp only; rw [if_pos c_1])); (first | done | rfl | (dsimp only; done)))
  · refine ab_iconst (pc := 230) (v := -1) dX10_count_230 (by decide) ?_
    refine xo_ir (pc := 231) dX10_count_231 rfl rfl ?_
    (rw [FX10_count]; (first | rw [if_neg (c_1 _ (List.mem_of_getElem? (i := 0) rfl))] | (dsimp only; rw [if_neg (c_1 _ (List.mem_of_getElem? (i := 0) rfl))])); (first | rw [if_neg (c_1 _ (List.mem_of_getElem? (i := 1) rfl))] | (dsimp only; rw [if_neg (c_1 _ (List.mem_of_getElem? (i := 1) rfl))])); (first | rw [if_neg (c_1 _ (List.mem_of_getElem? (i := 2) rfl))] | (dsimp only; rw [if_neg (c_1 _ (List.mem_of_getElem? (i := 2) rfl))])); (first | rw [if_neg (c_1 _ (List.mem_of_getElem? (i := 3) rfl))] | (dsimp only; rw [if_neg (c_1 _ (List.mem_of_getElem? (i := 3) rfl))])); (first | rw [if_neg (c_1 _ (List.mem_of_getElem? (i := 4) rfl))] | (dsimp only; rw [if_neg (c_1 _ (List.mem_of_getElem? (i := 4) rfl))])); (first | rw [if_neg (c_1 _ (List.mem_of_getElem? (i := 5) rfl))] | (dsimp only; rw [if_neg (c_1 _ (List.mem_of_getElem? (i := 5) rfl))])); (first | rw [if_neg (c_1 _ (List.mem_of_getElem? (i := 6) rfl))] | (dsimp only; rw [if_neg (c_1 _ (List.mem_of_getElem? (i := 6) rfl))])); (first | rw [if_neg (c_1 _ (List.mem_of_getElem? (i := 7) rfl))] | (dsimp only; rw [if_neg (c_1 _ (List.mem_of_getElem? (i := 7) rfl))])); (first | rw [if_neg (c_1 _ (List.mem_of_getElem? (i := 8) rfl))] | (dsimp only; rw [if_neg (c_1 _ (List.mem_of_getElem? (i := 8) rfl))])); (first | rw [if_neg (c_1 _ (List.mem_of_getElem? (i := 9) rfl))] | (dsimp only; rw [if_neg (c_1 _ (List.mem_of_getElem? (i := 9) rfl))])); (first | rw [if_neg (c_1 _ (List.mem_of_getElem? (i := 10) rfl))] | (dsimp only; rw [if_neg (c_1 _ (List.mem_of_getElem? (i := 10) rfl))])); (first | rw [if_neg (c_1 _ (List.mem_of_getElem? (i := 11) rfl))] | (dsimp only; rw [if_neg (c_1 _ (List.mem_of_getElem? (i := 11) rfl))])); (first | rw [if_neg (c_1 _ (List.mem_of_getElem? (i := 12) rfl))] | (dsimp only; rw [if_neg (c_1 _ (List.mem_of_getElem? (i := 12) rfl))])); (first | rw [if_neg (c_1 _ (List.mem_of_getElem? (i := 13) rfl))] | (dsimp only; rw [if_neg (c_1 _ (List.mem_of_getElem? (i := 13) rfl))])); (first | done | rfl | (dsimp only; done)))
