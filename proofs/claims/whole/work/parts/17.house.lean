def FX1_post (q : Nat) (t : Int32) (x : xD) : Int32 × xD :=
  if (FX10_isPart (x.1 q 1)) = 0 then
    let x2 : xD := (ab_up x.1 1 5 ((x.1 1 5) + (nI (1))), x.2)
    ((nI (1)), x2)
  else
    if (FX10_isPart (t)) = 0 then
      let x3 : xD := (ab_up x.1 1 5 ((x.1 1 5) + (nI (1))), x.2)
      ((nI (1)), x3)
    else
      if (((ab_al ((x.1 q 1).toNatClampNeg)) >>> ((t) &&& 31)) &&& (nI (1))) = 0 then
        let x32 : xD := (ab_up x.1 1 5 ((x.1 1 5) + (nI (1))), x.2)
        ((nI (1)), x32)
      else
        if (x.1 3 ((t).toNatClampNeg)) = 0 then
          ((nI (2)), x)
        else
          if (x.1 q 6) = 0 then
            let z12 := FX0_grow (7 + 28 * ((t).toNatClampNeg)) x
            ab_o z12.1 (
              let x14 : xD := (ab_up z12.2.1 q 7 (t), z12.2.2)
              ((nI (3)), x14)) (fun w13 =>
              let z18 := FX6_copy w13 q z12.2
              let x19 : xD := (ab_up z18.1 1 6 ((z18.1 1 6) + (nI (1))), z18.2)
              ((nI (0)), x19))
          else
            if (x.1 q 6) = (x.1 1 4) then
              let z24 := FX0_grow (7 + 28 * ((t).toNatClampNeg)) x
              ab_o z24.1 (
                let x26 : xD := (ab_up z24.2.1 q 7 (t), z24.2.2)
                ((nI (3)), x26)) (fun w25 =>
                let z30 := FX6_copy w25 q z24.2
                let x31 : xD := (ab_up z30.1 1 6 ((z30.1 1 6) + (nI (1))), z30.2)
                ((nI (0)), x31))
            else
              ((nI (2)), x)
def DX1_post (q : Nat) (t : Int32) (x : xD) : Prop :=
  (isX q 6) ∧
  (((FX10_isPart (x.1 q 1)) = 0) →
    True) ∧
  (¬ ((FX10_isPart (x.1 q 1)) = 0) →
    (((FX10_isPart (t)) = 0) →
      True) ∧
    (¬ ((FX10_isPart (t)) = 0) →
      (¬ (x.1 q 1) < 0) ∧
      (((x.1 q 1).toNatClampNeg) < 12) ∧
      (((((ab_al ((x.1 q 1).toNatClampNeg)) >>> ((t) &&& 31)) &&& (nI (1))) = 0) →
        True) ∧
      (¬ ((((ab_al ((x.1 q 1).toNatClampNeg)) >>> ((t) &&& 31)) &&& (nI (1))) = 0) →
        (¬ (t) < 0) ∧
        (((t).toNatClampNeg) < 12) ∧
        (((x.1 3 ((t).toNatClampNeg)) = 0) →
          True) ∧
        (¬ ((x.1 3 ((t).toNatClampNeg)) = 0) →
          (((x.1 q 6) = 0) →
            (¬ (t) < 0) ∧
            (((t).toNatClampNeg) < 12) ∧
            (DX0_grow (7 + 28 * ((t).toNatClampNeg)) x) ∧
            let z12 := FX0_grow (7 + 28 * ((t).toNatClampNeg)) x
            (z12.1 = none →
              True) ∧
            (∀ w13 : Nat, z12.1 = some w13 →
              (isX w13 6) ∧
              (DX6_copy w13 q z12.2) ∧
              let z18 := FX6_copy w13 q z12.2
              let x19 : xD := (ab_up z18.1 1 6 ((z18.1 1 6) + (nI (1))), z18.2)
              True)) ∧
          (¬ ((x.1 q 6) = 0) →
            (((x.1 q 6) = (x.1 1 4)) →
              (¬ (t) < 0) ∧
              (((t).toNatClampNeg) < 12) ∧
              (DX0_grow (7 + 28 * ((t).toNatClampNeg)) x) ∧
              let z24 := FX0_grow (7 + 28 * ((t).toNatClampNeg)) x
              (z24.1 = none →
                True) ∧
              (∀ w25 : Nat, z24.1 = some w25 →
                (isX w25 6) ∧
                (DX6_copy w25 q z24.2) ∧
                let z30 := FX6_copy w25 q z24.2
                let x31 : xD := (ab_up z30.1 1 6 ((z30.1 1 6) + (nI (1))), z30.2)
                True)) ∧
            (¬ ((x.1 q 6) = (x.1 1 4)) →
              True))))))
set_option maxRecDepth 100000 in
set_option maxHeartbeats 4000000 in
theorem c_X1_post {tt : Prop} (q : Nat) (t : Int32) (x : xD) (hD : DX1_post q t x) : ab_Met mX1_post 1 0 0 tt [.ref (1 : Nat), .ref (q : Nat), .int (t)] (sX x) (xQi (FX1_post q t x)) := by
  refine ab_Met.of rfl (Nat.le_of_ble_eq_true rfl) ?_
  show xV mX1_post 1 tt (xQi (FX1_post q t x)) 0 [some (.ref (1 : Nat)), some (.ref (q : Nat)), some (.int (t)), none] [] x
  refine ab_aload_n (pc := 0) dX1_post_0 rfl rfl ?_
  obtain ⟨o1, hD⟩ := hD
  refine xo_gi (pc := 1) dX1_post_1 fl_X1_56 o1 rfl ?_
  refine xo_invsN (N := mX10_isPart) (pc := 4) (d' := 0) (av := [_]) dX1_post_4 nn_X1_37 fs_X10_isPart (Nat.le_of_ble_eq_true rfl) (by decide) (c_X10_isPart _ _ trivial) ?_
  refine ab_if_eq (pc := 7) (tgt := 32) dX1_post_7 (by decide) (fun c_7 => ?_) (fun c_7 => ?_)
  · refine ab_aload_n (pc := 32) dX1_post_32 rfl rfl ?_
    refine ab_dup (pc := 33) dX1_post_33 rfl ?_
    refine xo_gi (pc := 34) dX1_post_34 fl_X1_63 (by decide) rfl ?_
    refine ab_iconst (pc := 37) (v := nI 1) dX1_post_37 (by decide) ?_
    refine ab_iadd (pc := 38) dX1_post_38 ?_
    refine xo_pi (pc := 39) dX1_post_39 fl_X1_63 (by decide) rfl (fun _ _ _ h => Or.inl (by cases h; rfl)) (ab_ok_i _) ?_
    refine ab_iconst (pc := 42) (v := nI 1) dX1_post_42 (by decide) ?_
    refine xo_ir (pc := 43) dX1_post_43 rfl rfl ?_
    (rw [FX1_post]; (first | rw [if_pos c_7] | (dsimp only; rw [if_pos c_7])); (first | done | rfl | (dsimp only; done)))
  · replace hD := hD.2 c_7
    refine ab_iload_n (pc := 10) dX1_post_10 rfl rfl ?_
    refine xo_invsN (N := mX10_isPart) (pc := 11) (d' := 0) (av := [_]) dX1_post_11 nn_X1_37 fs_X10_isPart (Nat.le_of_ble_eq_true rfl) (by decide) (c_X10_isPart _ _ trivial) ?_
    refine ab_if_eq (pc := 14) (tgt := 32) dX1_post_14 (by decide) (fun c_14 => ?_) (fun c_14 => ?_)
    · refine ab_aload_n (pc := 32) dX1_post_32 rfl rfl ?_
      refine ab_dup (pc := 33) dX1_post_33 rfl ?_
      refine xo_gi (pc := 34) dX1_post_34 fl_X1_63 (by decide) rfl ?_
      refine ab_iconst (pc := 37) (v := nI 1) dX1_post_37 (by decide) ?_
      refine ab_iadd (pc := 38) dX1_post_38 ?_
      refine xo_pi (pc := 39) dX1_post_39 fl_X1_63 (by decide) rfl (fun _ _ _ h => Or.inl (by cases h; rfl)) (ab_ok_i _) ?_
      refine ab_iconst (pc := 42) (v := nI 1) dX1_post_42 (by decide) ?_
      refine xo_ir (pc := 43) dX1_post_43 rfl rfl ?_
      (rw [FX1_post]; (first | rw [if_neg c_7] | (dsimp only; rw [if_neg c_7])); (first | rw [if_pos c_14] | (dsimp only; rw [if_pos c_14])); (first | done | rfl | (dsimp only; done)))
    · replace hD := hD.2 c_14
      refine ab_gets (pc := 17) dX1_post_17 rfl ?_
      refine ab_aload_n (pc := 20) dX1_post_20 rfl rfl ?_
      refine xo_gi (pc := 21) dX1_post_21 fl_X1_56 o1 rfl ?_
      obtain ⟨o4, hD⟩ := hD
      refine ab_nat1 (ab_nat o4) ?_
      obtain ⟨o5, hD⟩ := hD
      refine xo_tld (pc := 24) dX1_post_24 o5 ?_
      refine ab_iload_n (pc := 25) dX1_post_25 rfl rfl ?_
      refine ab_ishr (pc := 26) dX1_post_26 ?_
      refine ab_iconst (pc := 27) (v := nI 1) dX1_post_27 (by decide) ?_
      refine ab_iand (pc := 28) dX1_post_28 ?_
      refine ab_if_ne (pc := 29) (tgt := 44) dX1_post_29 (by decide) (fun c_29 => ?_) (fun c_29 => ?_)
      · replace hD := hD.2 c_29
        refine ab_aload_n (pc := 44) dX1_post_44 rfl rfl ?_
        refine xo_gr (pc := 45) (a := (3 : Nat)) dX1_post_45 fl_X1_17 (by decide) rfl rfl ?_
        refine ab_iload_n (pc := 48) dX1_post_48 rfl rfl ?_
        obtain ⟨o6, hD⟩ := hD
        refine ab_nat1 (ab_nat o6) ?_
        obtain ⟨o7, hD⟩ := hD
        refine xo_zld (pc := 49) dX1_post_49 (by decide) rfl o7 (by decide) ?_
        refine ab_if_eq (pc := 50) (tgt := 71) dX1_post_50 (by decide) (fun c_50 => ?_) (fun c_50 => ?_)
        · refine ab_iconst (pc := 71) (v := nI 2) dX1_post_71 (by decide) ?_
          refine xo_ir (pc := 72) dX1_post_72 rfl rfl ?_
          (rw [FX1_post]; (first | rw [if_neg c_7] | (dsimp only; rw [if_neg c_7])); (first | rw [if_neg c_14] | (dsimp only; rw [if_neg c_14])); (first | rw [if_neg c_29] | (dsimp only; rw [if_neg c_29])); (first | rw [if_pos c_50] | (dsimp only; rw [if_pos c_50])); (first | done | rfl | (dsimp only; done)))
        · replace hD := hD.2 c_50
          refine ab_aload_n (pc := 53) dX1_post_53 rfl rfl ?_
          refine xo_gi (pc := 54) dX1_post_54 fl_X1_66 o1 rfl ?_
          refine ab_if_eq (pc := 57) (tgt := 73) dX1_post_57 (by decide) (fun c_57 => ?_) (fun c_57 => ?_)
          · replace hD := hD.1 c_57
            refine ab_aload_n (pc := 73) dX1_post_73 rfl rfl ?_
            refine xo_gr (pc := 74) (a := (2 : Nat)) dX1_post_74 fl_X1_11 (by decide) rfl rfl ?_
            refine ab_iload_n (pc := 77) dX1_post_77 rfl rfl ?_
            obtain ⟨o8, hD⟩ := hD
            refine ab_nat1 (ab_nat o8) ?_
            obtain ⟨o9, hD⟩ := hD
            refine xo_ald (pc := 78) dX1_post_78 (by decide) (Or.inr rfl) rfl o9 (crX_box o9) ?_
            obtain ⟨o10, hD⟩ := hD
            have e11 := c_X0_grow (tt := tt) _ _ o10
            refine xo_invo (N := mX0_grow) (pc := 79) (d' := 0) (av := []) dX1_post_79 ml_X1_69 fv_X0_grow (isX_box o9) (Nat.le_of_ble_eq_true rfl) (by decide) e11 (fun c_79 => ?_) (fun w13 c_79 => ?_)
            · refine ab_astore_nN (pc := 82) dX1_post_82 rfl (Nat.le_of_ble_eq_true rfl) rfl ?_
              refine ab_aload_nN (pc := 83) dX1_post_83 rfl rfl ?_
              refine ab_ifnonnullN (pc := 84) dX1_post_84 ?_
              refine ab_aload_n (pc := 87) dX1_post_87 rfl rfl ?_
              refine ab_iload_n (pc := 88) dX1_post_88 rfl rfl ?_
              refine xo_pi (pc := 89) dX1_post_89 fl_X1_53 o1 rfl (fun _ _ _ h => Or.inl (by cases h; rfl)) (ab_ok_i _) ?_
              refine ab_iconst (pc := 92) (v := nI 3) dX1_post_92 (by decide) ?_
              refine xo_ir (pc := 93) dX1_post_93 rfl rfl ?_
              (rw [FX1_post]; (first | rw [if_neg c_7] | (dsimp only; rw [if_neg c_7])); (first | rw [if_neg c_14] | (dsimp only; rw [if_neg c_14])); (first | rw [if_neg c_29] | (dsimp only; rw [if_neg c_29])); (first | rw [if_neg c_50] | (dsimp only; rw [if_neg c_50])); (first | rw [if_pos c_57] | (dsimp only; rw [if_pos c_57])); (first | rw [ab_o_n c_79] | (dsimp only; rw [ab_o_n c_79])); (first | done | rfl | (dsimp only; done)))
            · replace hD := hD.2 w13 c_79
              refine ab_astore_n (pc := 82) dX1_post_82 rfl (Nat.le_of_ble_eq_true rfl) rfl ?_
              refine ab_aload_n (pc := 83) dX1_post_83 rfl rfl ?_
              refine ab_ifnonnull (pc := 84) (tgt := 94) dX1_post_84 (by decide) ?_
              refine ab_aload_n (pc := 94) dX1_post_94 rfl rfl ?_
              refine ab_aload_n (pc := 95) dX1_post_95 rfl rfl ?_
              obtain ⟨o15, hD⟩ := hD
              obtain ⟨o16, hD⟩ := hD
              have e17 := c_X6_copy (tt := tt) _ _ _ o16
              refine xo_invv (N := mX6_copy) (pc := 96) (d' := 0) (av := [_]) dX1_post_96 ml_X1_73 fv_X6_copy o15 (Nat.le_of_ble_eq_true rfl) (by decide) e17 ?_
              refine ab_aload_n (pc := 99) dX1_post_99 rfl rfl ?_
              refine ab_dup (pc := 100) dX1_post_100 rfl ?_
              refine xo_gi (pc := 101) dX1_post_101 fl_X1_77 (by decide) rfl ?_
              refine ab_iconst (pc := 104) (v := nI 1) dX1_post_104 (by decide) ?_
              refine ab_iadd (pc := 105) dX1_post_105 ?_
              refine xo_pi (pc := 106) dX1_post_106 fl_X1_77 (by decide) rfl (fun _ _ _ h => Or.inl (by cases h; rfl)) (ab_ok_i _) ?_
              refine ab_iconst (pc := 109) (v := nI 0) dX1_post_109 (by decide) ?_
              refine xo_ir (pc := 110) dX1_post_110 rfl rfl ?_
              (rw [FX1_post]; (first | rw [if_neg c_7] | (dsimp only; rw [if_neg c_7])); (first | rw [if_neg c_14] | (dsimp only; rw [if_neg c_14])); (first | rw [if_neg c_29] | (dsimp only; rw [if_neg c_29])); (first | rw [if_neg c_50] | (dsimp only; rw [if_neg c_50])); (first | rw [if_pos c_57] | (dsimp only; rw [if_pos c_57])); (first | rw [ab_o_s c_79] | (dsimp only; rw [ab_o_s c_79])); (first | done | rfl | (dsimp only; done)))
          · replace hD := hD.2 c_57
            refine ab_aload_n (pc := 60) dX1_post_60 rfl rfl ?_
            refine xo_gi (pc := 61) dX1_post_61 fl_X1_66 o1 rfl ?_
            refine ab_aload_n (pc := 64) dX1_post_64 rfl rfl ?_
            refine xo_gi (pc := 65) dX1_post_65 fl_X1_32 (by decide) rfl ?_
            refine ab_icmp_eq (pc := 68) (tgt := 73) dX1_post_68 (by decide) (fun c_68 => ?_) (fun c_68 => ?_)
            · replace hD := hD.1 c_68
              refine ab_aload_n (pc := 73) dX1_post_73 rfl rfl ?_
              refine xo_gr (pc := 74) (a := (2 : Nat)) dX1_post_74 fl_X1_11 (by decide) rfl rfl ?_
              refine ab_iload_n (pc := 77) dX1_post_77 rfl rfl ?_
              obtain ⟨o20, hD⟩ := hD
              refine ab_nat1 (ab_nat o20) ?_
              obtain ⟨o21, hD⟩ := hD
              refine xo_ald (pc := 78) dX1_post_78 (by decide) (Or.inr rfl) rfl o21 (crX_box o21) ?_
              obtain ⟨o22, hD⟩ := hD
              have e23 := c_X0_grow (tt := tt) _ _ o22
              refine xo_invo (N := mX0_grow) (pc := 79) (d' := 0) (av := []) dX1_post_79 ml_X1_69 fv_X0_grow (isX_box o21) (Nat.le_of_ble_eq_true rfl) (by decide) e23 (fun c_79 => ?_) (fun w25 c_79 => ?_)
              · refine ab_astore_nN (pc := 82) dX1_post_82 rfl (Nat.le_of_ble_eq_true rfl) rfl ?_
                refine ab_aload_nN (pc := 83) dX1_post_83 rfl rfl ?_
                refine ab_ifnonnullN (pc := 84) dX1_post_84 ?_
                refine ab_aload_n (pc := 87) dX1_post_87 rfl rfl ?_
                refine ab_iload_n (pc := 88) dX1_post_88 rfl rfl ?_
                refine xo_pi (pc := 89) dX1_post_89 fl_X1_53 o1 rfl (fun _ _ _ h => Or.inl (by cases h; rfl)) (ab_ok_i _) ?_
                refine ab_iconst (pc := 92) (v := nI 3) dX1_post_92 (by decide) ?_
                refine xo_ir (pc := 93) dX1_post_93 rfl rfl ?_
                (rw [FX1_post]; (first | rw [if_neg c_7] | (dsimp only; rw [if_neg c_7])); (first | rw [if_neg c_14] | (dsimp only; rw [if_neg c_14])); (first | rw [if_neg c_29] | (dsimp only; rw [if_neg c_29])); (first | rw [if_neg c_50] | (dsimp only; rw [if_neg c_50])); (first | rw [if_neg c_57] | (dsimp only; rw [if_neg c_57])); (first | rw [if_pos c_68] | (dsimp only; rw [if_pos c_68])); (first | rw [ab_o_n c_79] | (dsimp only; rw [ab_o_n c_79])); (first | done | rfl | (dsimp only; done)))
              · replace hD := hD.2 w25 c_79
                refine ab_astore_n (pc := 82) dX1_post_82 rfl (Nat.le_of_ble_eq_true rfl) rfl ?_
                refine ab_aload_n (pc := 83) dX1_post_83 rfl rfl ?_
                refine ab_ifnonnull (pc := 84) (tgt := 94) dX1_post_84 (by decide) ?_
                refine ab_aload_n (pc := 94) dX1_post_94 rfl rfl ?_
                refine ab_aload_n (pc := 95) dX1_post_95 rfl rfl ?_
                obtain ⟨o27, hD⟩ := hD
                obtain ⟨o28, hD⟩ := hD
                have e29 := c_X6_copy (tt := tt) _ _ _ o28
                refine xo_invv (N := mX6_copy) (pc := 96) (d' := 0) (av := [_]) dX1_post_96 ml_X1_73 fv_X6_copy o27 (Nat.le_of_ble_eq_true rfl) (by decide) e29 ?_
                refine ab_aload_n (pc := 99) dX1_post_99 rfl rfl ?_
                refine ab_dup (pc := 100) dX1_post_100 rfl ?_
                refine xo_gi (pc := 101) dX1_post_101 fl_X1_77 (by decide) rfl ?_
                refine ab_iconst (pc := 104) (v := nI 1) dX1_post_104 (by decide) ?_
                refine ab_iadd (pc := 105) dX1_post_105 ?_
                refine xo_pi (pc := 106) dX1_post_106 fl_X1_77 (by decide) rfl (fun _ _ _ h => Or.inl (by cases h; rfl)) (ab_ok_i _) ?_
                refine ab_iconst (pc := 109) (v := nI 0) dX1_post_109 (by decide) ?_
                refine xo_ir (pc := 110) dX1_post_110 rfl rfl ?_
                (rw [FX1_post]; (first | rw [if_neg c_7] | (dsimp only; rw [if_neg c_7])); (first | rw [if_neg c_14] | (dsimp only; rw [if_neg c_14])); (first | rw [if_neg c_29] | (dsimp only; rw [if_neg c_29])); (first | rw [if_neg c_50] | (dsimp only; rw [if_neg c_50])); (first | rw [if_neg c_57] | (dsimp only; rw [if_neg c_57])); (first | rw [if_pos c_68] | (dsimp only; rw [if_pos c_68])); (first | rw [ab_o_s c_79] | (dsimp only; rw [ab_o_s c_79])); (first | done | rfl | (dsimp only; done)))
            · refine ab_iconst (pc := 71) (v := nI 2) dX1_post_71 (by decide) ?_
              refine xo_ir (pc := 72) dX1_post_72 rfl rfl ?_
              (rw [FX1_post]; (first | rw [if_neg c_7] | (dsimp only; rw [if_neg c_7])); (first | rw [if_neg c_14] | (dsimp only; rw [if_neg c_14])); (first | rw [if_neg c_29] | (dsimp only; rw [if_neg c_29])); (first | rw [if_neg c_50] | (dsimp only; rw [if_neg c_50])); (first | rw [if_neg c_57] | (dsimp only; rw [if_neg c_57])); (first | rw [if_neg c_68] | (dsimp only; rw [if_neg c_68])); (first | done | rfl | (dsimp only; done)))
      · refine ab_aload_n (pc := 32) dX1_post_32 rfl rfl ?_
        refine ab_dup (pc := 33) dX1_post_33 rfl ?_
        refine xo_gi (pc := 34) dX1_post_34 fl_X1_63 (by decide) rfl ?_
        refine ab_iconst (pc := 37) (v := nI 1) dX1_post_37 (by decide) ?_
        refine ab_iadd (pc := 38) dX1_post_38 ?_
        refine xo_pi (pc := 39) dX1_post_39 fl_X1_63 (by decide) rfl (fun _ _ _ h => Or.inl (by cases h; rfl)) (ab_ok_i _) ?_
        refine ab_iconst (pc := 42) (v := nI 1) dX1_post_42 (by decide) ?_
        refine xo_ir (pc := 43) dX1_post_43 rfl rfl ?_
        (rw [FX1_post]; (first | rw [if_neg c_7] | (dsimp only; rw [if_neg c_7])); (first | rw [if_neg c_14] | (dsimp only; rw [if_neg c_14])); (first | rw [if_pos c_29] | (dsimp only; rw [if_pos c_29])); (first | done | rfl | (dsimp only; done)))
def FX1_draft (f : Int32) (k : Int32) (a : Int32) (b : Int32) (x : xD) : Option Nat × xD :=
  if (FX10_isPart (f)) = 0 then
    (none, x)
  else
    let z5 := FX6_write (33 + 28 * ((f).toNatClampNeg)) (f) (k) (a) (b) x
    (some (33 + 28 * ((f).toNatClampNeg)), z5)
def DX1_draft (f : Int32) (k : Int32) (a : Int32) (b : Int32) (x : xD) : Prop :=
  (((FX10_isPart (f)) = 0) →
    True) ∧
  (¬ ((FX10_isPart (f)) = 0) →
    (¬ (f) < 0) ∧
    (((f).toNatClampNeg) < 12) ∧
    (DX6_write (33 + 28 * ((f).toNatClampNeg)) (f) (k) (a) (b) x) ∧
    let z5 := FX6_write (33 + 28 * ((f).toNatClampNeg)) (f) (k) (a) (b) x
    (¬ (f) < 0) ∧
    (((f).toNatClampNeg) < 12) ∧
    True)
set_option maxRecDepth 100000 in
set_option maxHeartbeats 4000000 in
theorem c_X1_draft {tt : Prop} (f : Int32) (k : Int32) (a : Int32) (b : Int32) (x : xD) (hD : DX1_draft f k a b x) : ab_Met mX1_draft 1 0 0 tt [.ref (1 : Nat), .int (f), .int (k), .int (a), .int (b)] (sX x) (xQo (FX1_draft f k a b x)) := by
  refine ab_Met.of rfl (Nat.le_of_ble_eq_true rfl) ?_
  show xV mX1_draft 1 tt (xQo (FX1_draft f k a b x)) 0 [some (.ref (1 : Nat)), some (.int (f)), some (.int (k)), some (.int (a)), some (.int (b))] [] x
  refine ab_iload_n (pc := 0) dX1_draft_0 rfl rfl ?_
  refine xo_invsN (N := mX10_isPart) (pc := 1) (d' := 0) (av := [_]) dX1_draft_1 nn_X1_37 fs_X10_isPart (Nat.le_of_ble_eq_true rfl) (by decide) (c_X10_isPart _ _ trivial) ?_
  refine ab_if_ne (pc := 4) (tgt := 9) dX1_draft_4 (by decide) (fun c_4 => ?_) (fun c_4 => ?_)
  · replace hD := hD.2 c_4
    refine ab_aload_n (pc := 9) dX1_draft_9 rfl rfl ?_
    refine xo_gr (pc := 10) (a := (4 : Nat)) dX1_draft_10 fl_X1_23 (by decide) rfl rfl ?_
    refine ab_iload_n (pc := 13) dX1_draft_13 rfl rfl ?_
    obtain ⟨o1, hD⟩ := hD
    refine ab_nat1 (ab_nat o1) ?_
    obtain ⟨o2, hD⟩ := hD
    refine xo_ald (pc := 14) dX1_draft_14 (by decide) (Or.inl rfl) rfl o2 (crX_dra o2) ?_
    refine ab_iload_n (pc := 15) dX1_draft_15 rfl rfl ?_
    refine ab_iload_n (pc := 16) dX1_draft_16 rfl rfl ?_
    refine ab_iload_n (pc := 17) dX1_draft_17 rfl rfl ?_
    refine ab_iload (pc := 18) dX1_draft_18 rfl ?_
    obtain ⟨o3, hD⟩ := hD
    have e4 := c_X6_write (tt := tt) _ _ _ _ _ _ o3
    refine xo_invv (N := mX6_write) (pc := 20) (d' := 0) (av := [_, _, _, _]) dX1_draft_20 ml_X1_41 fv_X6_write (isX_dra o2) (Nat.le_of_ble_eq_true rfl) (by decide) e4 ?_
    refine ab_aload_n (pc := 23) dX1_draft_23 rfl rfl ?_
    refine xo_gr (pc := 24) (a := (4 : Nat)) dX1_draft_24 fl_X1_23 (by decide) rfl rfl ?_
    refine ab_iload_n (pc := 27) dX1_draft_27 rfl rfl ?_
    obtain ⟨o6, hD⟩ := hD
    refine ab_nat1 (ab_nat o6) ?_
    obtain ⟨o7, hD⟩ := hD
    refine xo_ald (pc := 28) dX1_draft_28 (by decide) (Or.inl rfl) rfl o7 (crX_dra o7) ?_
    refine xo_or (pc := 29) dX1_draft_29 rfl ?_
    (rw [FX1_draft]; (first | rw [if_neg c_4] | (dsimp only; rw [if_neg c_4])); (first | done | rfl | (dsimp only; done)))
  · refine ab_null (pc := 7) dX1_draft_7 ?_
    refine xo_orN (pc := 8) dX1_draft_8 rfl ?_
    (rw [FX1_draft]; (first | rw [if_pos c_4] | (dsimp only; rw [if_pos c_4])); (first | done | rfl | (dsimp only; done)))
def FX1_send (f : Int32) (t : Int32) (k : Int32) (a : Int32) (b : Int32) (x : xD) : xD :=
  let z3 := FX1_draft (f) (k) (a) (b) x
  ab_o z3.1 (
    z3.2) (fun w4 =>
    let z7 := FX1_post w4 (t) z3.2
    z7.2)
def DX1_send (f : Int32) (t : Int32) (k : Int32) (a : Int32) (b : Int32) (x : xD) : Prop :=
  (DX1_draft (f) (k) (a) (b) x) ∧
  let z3 := FX1_draft (f) (k) (a) (b) x
  (z3.1 = none →
    True) ∧
  (∀ w4 : Nat, z3.1 = some w4 →
    (DX1_post w4 (t) z3.2) ∧
    let z7 := FX1_post w4 (t) z3.2
    True)
set_option maxRecDepth 100000 in
set_option maxHeartbeats 4000000 in
theorem c_X1_send {tt : Prop} (f : Int32) (t : Int32) (k : Int32) (a : Int32) (b : Int32) (x : xD) (hD : DX1_send f t k a b x) : ab_Met mX1_send 2 0 0 tt [.ref (1 : Nat), .int (f), .int (t), .int (k), .int (a), .int (b)] (sX x) (xQv (FX1_send f t k a b x)) := by
  refine ab_Met.of rfl (Nat.le_of_ble_eq_true rfl) ?_
  show xV mX1_send 2 tt (xQv (FX1_send f t k a b x)) 0 [some (.ref (1 : Nat)), some (.int (f)), some (.int (t)), some (.int (k)), some (.int (a)), some (.int (b)), none] [] x
  refine ab_aload_n (pc := 0) dX1_send_0 rfl rfl ?_
  refine ab_iload_n (pc := 1) dX1_send_1 rfl rfl ?_
  refine ab_iload_n (pc := 2) dX1_send_2 rfl rfl ?_
  refine ab_iload (pc := 3) dX1_send_3 rfl ?_
  refine ab_iload (pc := 5) dX1_send_5 rfl ?_
  obtain ⟨o1, hD⟩ := hD
  have e2 := c_X1_draft (tt := tt) _ _ _ _ _ o1
  refine xo_invo (N := mX1_draft) (pc := 7) (d' := 1) (av := [_, _, _, _]) dX1_send_7 ml_X1_45 fv_X1_draft (by decide) (Nat.le_of_ble_eq_true rfl) (by decide) e2 (fun c_7 => ?_) (fun w4 c_7 => ?_)
  · refine ab_astoreN (pc := 10) dX1_send_10 (Nat.le_of_ble_eq_true rfl) rfl ?_
    refine ab_aloadN (pc := 12) dX1_send_12 rfl ?_
    refine ab_ifnullN (pc := 14) (tgt := 25) dX1_send_14 (by decide) ?_
    refine xo_vr (pc := 25) dX1_send_25 rfl ?_
    (rw [FX1_send]; (first | rw [ab_o_n c_7] | (dsimp only; rw [ab_o_n c_7])); (first | done | rfl | (dsimp only; done)))
  · replace hD := hD.2 w4 c_7
    refine ab_astore (pc := 10) dX1_send_10 (Nat.le_of_ble_eq_true rfl) rfl ?_
    refine ab_aload (pc := 12) dX1_send_12 rfl ?_
    refine ab_ifnull (pc := 14) dX1_send_14 ?_
    refine ab_aload_n (pc := 17) dX1_send_17 rfl rfl ?_
    refine ab_aload (pc := 18) dX1_send_18 rfl ?_
    refine ab_iload_n (pc := 20) dX1_send_20 rfl rfl ?_
    obtain ⟨o5, hD⟩ := hD
    have e6 := c_X1_post (tt := tt) _ _ _ o5
    refine xo_invi (N := mX1_post) (pc := 21) (d' := 1) (av := [_, _]) dX1_send_21 ml_X1_49 fv_X1_post (by decide) (Nat.le_of_ble_eq_true rfl) (by decide) e6 ?_
    refine ab_pop (pc := 24) dX1_send_24 rfl ?_
    refine xo_vr (pc := 25) dX1_send_25 rfl ?_
    (rw [FX1_send]; (first | rw [ab_o_s c_7] | (dsimp only; rw [ab_o_s c_7])); (first | done | rfl | (dsimp only; done)))
def FX1_postLoose (f : Int32) (t : Int32) (k : Int32) (a : Int32) (b : Int32) (x : xD) : Int32 × xD :=
  let z3 := FX6_write 5 (f) (k) (a) (b) x
  let z6 := FX1_post 5 (t) z3
  ((z6.1), z6.2)
def DX1_postLoose (f : Int32) (t : Int32) (k : Int32) (a : Int32) (b : Int32) (x : xD) : Prop :=
  (DX6_write 5 (f) (k) (a) (b) x) ∧
  let z3 := FX6_write 5 (f) (k) (a) (b) x
  (DX1_post 5 (t) z3) ∧
  let z6 := FX1_post 5 (t) z3
  True
set_option maxRecDepth 100000 in
set_option maxHeartbeats 4000000 in
theorem c_X1_postLoose {tt : Prop} (f : Int32) (t : Int32) (k : Int32) (a : Int32) (b : Int32) (x : xD) (hD : DX1_postLoose f t k a b x) : ab_Met mX1_postLoose 2 0 0 tt [.ref (1 : Nat), .int (f), .int (t), .int (k), .int (a), .int (b)] (sX x) (xQi (FX1_postLoose f t k a b x)) := by
  refine ab_Met.of rfl (Nat.le_of_ble_eq_true rfl) ?_
  show xV mX1_postLoose 2 tt (xQi (FX1_postLoose f t k a b x)) 0 [some (.ref (1 : Nat)), some (.int (f)), some (.int (t)), some (.int (k)), some (.int (a)), some (.int (b))] [] x
  refine ab_aload_n (pc := 0) dX1_postLoose_0 rfl rfl ?_
  refine xo_gr (pc := 1) (a := (5 : Nat)) dX1_postLoose_1 fl_X1_28 (by decide) rfl rfl ?_
  refine ab_iload_n (pc := 4) dX1_postLoose_4 rfl rfl ?_
  refine ab_iload_n (pc := 5) dX1_postLoose_5 rfl rfl ?_
  refine ab_iload (pc := 6) dX1_postLoose_6 rfl ?_
  refine ab_iload (pc := 8) dX1_postLoose_8 rfl ?_
  obtain ⟨o1, hD⟩ := hD
  have e2 := c_X6_write (tt := tt) _ _ _ _ _ _ o1
  refine xo_invv (N := mX6_write) (pc := 10) (d' := 0) (av := [_, _, _, _]) dX1_postLoose_10 ml_X1_41 fv_X6_write (by decide) (Nat.le_of_ble_eq_true rfl) (by decide) e2 ?_
  refine ab_aload_n (pc := 13) dX1_postLoose_13 rfl rfl ?_
  refine ab_aload_n (pc := 14) dX1_postLoose_14 rfl rfl ?_
  refine xo_gr (pc := 15) (a := (5 : Nat)) dX1_postLoose_15 fl_X1_28 (by decide) rfl rfl ?_
  refine ab_iload_n (pc := 18) dX1_postLoose_18 rfl rfl ?_
  obtain ⟨o4, hD⟩ := hD
  have e5 := c_X1_post (tt := tt) _ _ _ o4
  refine xo_invi (N := mX1_post) (pc := 19) (d' := 1) (av := [_, _]) dX1_postLoose_19 ml_X1_49 fv_X1_post (by decide) (Nat.le_of_ble_eq_true rfl) (by decide) e5 ?_
  refine xo_ir (pc := 22) dX1_postLoose_22 rfl rfl ?_
  first | rfl | (rw [FX1_postLoose]; done) | (rw [FX1_postLoose]; rfl)
def FX1_sendHeld (p : Int32) (x : xD) : Int32 × xD :=
  if (FX10_isPart (p)) = 0 then
    ((nI (0)), x)
  else
    if (x.1 (33 + 28 * ((p).toNatClampNeg)) 7) = (-1) then
      ((nI (0)), x)
    else
      let x5 : xD := (ab_up x.1 (33 + 28 * ((p).toNatClampNeg)) 7 (-1), x.2)
      let z8 := FX1_post (33 + 28 * ((p).toNatClampNeg)) (x.1 (33 + 28 * ((p).toNatClampNeg)) 7) x5
      ((nI (1)), z8.2)
def DX1_sendHeld (p : Int32) (x : xD) : Prop :=
  (((FX10_isPart (p)) = 0) →
    True) ∧
  (¬ ((FX10_isPart (p)) = 0) →
    (¬ (p) < 0) ∧
    (((p).toNatClampNeg) < 12) ∧
    (((x.1 (33 + 28 * ((p).toNatClampNeg)) 7) = (-1)) →
      True) ∧
    (¬ ((x.1 (33 + 28 * ((p).toNatClampNeg)) 7) = (-1)) →
      (¬ (p) < 0) ∧
      (((p).toNatClampNeg) < 12) ∧
      let x5 : xD := (ab_up x.1 (33 + 28 * ((p).toNatClampNeg)) 7 (-1), x.2)
      (DX1_post (33 + 28 * ((p).toNatClampNeg)) (x.1 (33 + 28 * ((p).toNatClampNeg)) 7) x5) ∧
      let z8 := FX1_post (33 + 28 * ((p).toNatClampNeg)) (x.1 (33 + 28 * ((p).toNatClampNeg)) 7) x5
      True))
set_option maxRecDepth 100000 in
set_option maxHeartbeats 4000000 in
theorem c_X1_sendHeld {tt : Prop} (p : Int32) (x : xD) (hD : DX1_sendHeld p x) : ab_Met mX1_sendHeld 2 0 0 tt [.ref (1 : Nat), .int (p)] (sX x) (xQi (FX1_sendHeld p x)) := by
  refine ab_Met.of rfl (Nat.le_of_ble_eq_true rfl) ?_
  show xV mX1_sendHeld 2 tt (xQi (FX1_sendHeld p x)) 0 [some (.ref (1 : Nat)), some (.int (p)), none, none] [] x
  refine ab_iload_n (pc := 0) dX1_sendHeld_0 rfl rfl ?_
  refine xo_invsN (N := mX10_isPart) (pc := 1) (d' := 0) (av := [_]) dX1_sendHeld_1 nn_X1_37 fs_X10_isPart (Nat.le_of_ble_eq_true rfl) (by decide) (c_X10_isPart _ _ trivial) ?_
  refine ab_if_eq (pc := 4) (tgt := 20) dX1_sendHeld_4 (by decide) (fun c_4 => ?_) (fun c_4 => ?_)
  · refine ab_iconst (pc := 20) (v := nI 0) dX1_sendHeld_20 (by decide) ?_
    refine xo_ir (pc := 21) dX1_sendHeld_21 rfl (ab_nb (Or.inl rfl)) ?_
    (rw [FX1_sendHeld]; (first | rw [if_pos c_4] | (dsimp only; rw [if_pos c_4])); (first | done | rfl | (dsimp only; done)))
  · replace hD := hD.2 c_4
    refine ab_aload_n (pc := 7) dX1_sendHeld_7 rfl rfl ?_
    refine xo_gr (pc := 8) (a := (4 : Nat)) dX1_sendHeld_8 fl_X1_23 (by decide) rfl rfl ?_
    refine ab_iload_n (pc := 11) dX1_sendHeld_11 rfl rfl ?_
    obtain ⟨o1, hD⟩ := hD
    refine ab_nat1 (ab_nat o1) ?_
    obtain ⟨o2, hD⟩ := hD
    refine xo_ald (pc := 12) dX1_sendHeld_12 (by decide) (Or.inl rfl) rfl o2 (crX_dra o2) ?_
    refine xo_gi (pc := 13) dX1_sendHeld_13 fl_X1_53 (isX_dra o2) rfl ?_
    refine ab_iconst (pc := 16) (v := -1) dX1_sendHeld_16 (by decide) ?_
    refine ab_icmp_ne (pc := 17) (tgt := 22) dX1_sendHeld_17 (by decide) (fun c_17 => ?_) (fun c_17 => ?_)
    · replace hD := hD.2 c_17
      refine ab_aload_n (pc := 22) dX1_sendHeld_22 rfl rfl ?_
      refine xo_gr (pc := 23) (a := (4 : Nat)) dX1_sendHeld_23 fl_X1_23 (by decide) rfl rfl ?_
      refine ab_iload_n (pc := 26) dX1_sendHeld_26 rfl rfl ?_
      obtain ⟨o3, hD⟩ := hD
      refine ab_nat1 (ab_nat o3) ?_
      obtain ⟨o4, hD⟩ := hD
      refine xo_ald (pc := 27) dX1_sendHeld_27 (by decide) (Or.inl rfl) rfl o4 (crX_dra o4) ?_
      refine ab_astore_n (pc := 28) dX1_sendHeld_28 rfl (Nat.le_of_ble_eq_true rfl) rfl ?_
      refine ab_aload_n (pc := 29) dX1_sendHeld_29 rfl rfl ?_
      refine xo_gi (pc := 30) dX1_sendHeld_30 fl_X1_53 (isX_dra o4) rfl ?_
      refine ab_istore_n (pc := 33) dX1_sendHeld_33 rfl (Nat.le_of_ble_eq_true rfl) rfl ?_
      refine ab_aload_n (pc := 34) dX1_sendHeld_34 rfl rfl ?_
      refine ab_iconst (pc := 35) (v := -1) dX1_sendHeld_35 (by decide) ?_
      refine xo_pi (pc := 36) dX1_sendHeld_36 fl_X1_53 (isX_dra o4) rfl (fun _ _ _ h => Or.inl (by cases h; rfl)) (ab_ok_i _) ?_
      refine ab_aload_n (pc := 39) dX1_sendHeld_39 rfl rfl ?_
      refine ab_aload_n (pc := 40) dX1_sendHeld_40 rfl rfl ?_
      refine ab_iload_n (pc := 41) dX1_sendHeld_41 rfl rfl ?_
      obtain ⟨o6, hD⟩ := hD
      have e7 := c_X1_post (tt := tt) _ _ _ o6
      refine xo_invi (N := mX1_post) (pc := 42) (d' := 1) (av := [_, _]) dX1_sendHeld_42 ml_X1_49 fv_X1_post (by decide) (Nat.le_of_ble_eq_true rfl) (by decide) e7 ?_
      refine ab_pop (pc := 45) dX1_sendHeld_45 rfl ?_
      refine ab_iconst (pc := 46) (v := nI 1) dX1_sendHeld_46 (by decide) ?_
      refine xo_ir (pc := 47) dX1_sendHeld_47 rfl (ab_nb (Or.inr rfl)) ?_
      (rw [FX1_sendHeld]; (first | rw [if_neg c_4] | (dsimp only; rw [if_neg c_4])); (first | rw [if_neg c_17] | (dsimp only; rw [if_neg c_17])); (first | done | rfl | (dsimp only; done)))
    · refine ab_iconst (pc := 20) (v := nI 0) dX1_sendHeld_20 (by decide) ?_
      refine xo_ir (pc := 21) dX1_sendHeld_21 rfl (ab_nb (Or.inl rfl)) ?_
      (rw [FX1_sendHeld]; (first | rw [if_neg c_4] | (dsimp only; rw [if_neg c_4])); (first | rw [if_pos c_17] | (dsimp only; rw [if_pos c_17])); (first | done | rfl | (dsimp only; done)))
def FX1_end (p : Int32) (x : xD) : xD :=
  if (FX10_isPart (p)) = 0 then
    x
  else
    let x3 : xD := (ab_up x.1 3 ((p).toNatClampNeg) (nI (0)), x.2)
    let x6 : xD := (ab_up x3.1 (7 + 28 * ((p).toNatClampNeg)) 1 (nI (0)), x3.2)
    let x9 : xD := (ab_up x6.1 (33 + 28 * ((p).toNatClampNeg)) 7 (-1), x6.2)
    x9
def DX1_end (p : Int32) (x : xD) : Prop :=
  (((FX10_isPart (p)) = 0) →
    True) ∧
  (¬ ((FX10_isPart (p)) = 0) →
    (¬ (p) < 0) ∧
    (((p).toNatClampNeg) < 12) ∧
    let x3 : xD := (ab_up x.1 3 ((p).toNatClampNeg) (nI (0)), x.2)
    (¬ (p) < 0) ∧
    (((p).toNatClampNeg) < 12) ∧
    let x6 : xD := (ab_up x3.1 (7 + 28 * ((p).toNatClampNeg)) 1 (nI (0)), x3.2)
    (¬ (p) < 0) ∧
    (((p).toNatClampNeg) < 12) ∧
    let x9 : xD := (ab_up x6.1 (33 + 28 * ((p).toNatClampNeg)) 7 (-1), x6.2)
    True)
set_option maxRecDepth 100000 in
set_option maxHeartbeats 4000000 in
theorem c_X1_end {tt : Prop} (p : Int32) (x : xD) (hD : DX1_end p x) : ab_Met mX1_end 1 0 0 tt [.ref (1 : Nat), .int (p)] (sX x) (xQv (FX1_end p x)) := by
  refine ab_Met.of rfl (Nat.le_of_ble_eq_true rfl) ?_
  show xV mX1_end 1 tt (xQv (FX1_end p x)) 0 [some (.ref (1 : Nat)), some (.int (p))] [] x
  refine ab_iload_n (pc := 0) dX1_end_0 rfl rfl ?_
  refine xo_invsN (N := mX10_isPart) (pc := 1) (d' := 0) (av := [_]) dX1_end_1 nn_X1_37 fs_X10_isPart (Nat.le_of_ble_eq_true rfl) (by decide) (c_X10_isPart _ _ trivial) ?_
  refine ab_if_eq (pc := 4) (tgt := 34) dX1_end_4 (by decide) (fun c_4 => ?_) (fun c_4 => ?_)
  · refine xo_vr (pc := 34) dX1_end_34 rfl ?_
    (rw [FX1_end]; (first | rw [if_pos c_4] | (dsimp only; rw [if_pos c_4])); (first | done | rfl | (dsimp only; done)))
  · replace hD := hD.2 c_4
    refine ab_aload_n (pc := 7) dX1_end_7 rfl rfl ?_
    refine xo_gr (pc := 8) (a := (3 : Nat)) dX1_end_8 fl_X1_17 (by decide) rfl rfl ?_
    refine ab_iload_n (pc := 11) dX1_end_11 rfl rfl ?_
    refine ab_iconst (pc := 12) (v := nI 0) dX1_end_12 (by decide) ?_
    obtain ⟨o1, hD⟩ := hD
    refine ab_nat3 (ab_nat o1) ?_
    obtain ⟨o2, hD⟩ := hD
    refine xo_zst (pc := 13) dX1_end_13 (by decide) rfl o2 (by decide) (Or.inl rfl) ?_
    refine ab_aload_n (pc := 14) dX1_end_14 rfl rfl ?_
    refine xo_gr (pc := 15) (a := (2 : Nat)) dX1_end_15 fl_X1_11 (by decide) rfl rfl ?_
    refine ab_iload_n (pc := 18) dX1_end_18 rfl rfl ?_
    obtain ⟨o4, hD⟩ := hD
    refine ab_nat1 (ab_nat o4) ?_
    obtain ⟨o5, hD⟩ := hD
    refine xo_ald (pc := 19) dX1_end_19 (by decide) (Or.inr rfl) rfl o5 (crX_box o5) ?_
    refine ab_iconst (pc := 20) (v := nI 0) dX1_end_20 (by decide) ?_
    refine xo_pi (pc := 21) dX1_end_21 fl_X1_80 (isX_box o5) rfl (fun _ _ _ h => Or.inl (by cases h; rfl)) (ab_ok_i _) ?_
    refine ab_aload_n (pc := 24) dX1_end_24 rfl rfl ?_
    refine xo_gr (pc := 25) (a := (4 : Nat)) dX1_end_25 fl_X1_23 (by decide) rfl rfl ?_
    refine ab_iload_n (pc := 28) dX1_end_28 rfl rfl ?_
    obtain ⟨o7, hD⟩ := hD
    refine ab_nat1 (ab_nat o7) ?_
    obtain ⟨o8, hD⟩ := hD
    refine xo_ald (pc := 29) dX1_end_29 (by decide) (Or.inl rfl) rfl o8 (crX_dra o8) ?_
    refine ab_iconst (pc := 30) (v := -1) dX1_end_30 (by decide) ?_
    refine xo_pi (pc := 31) dX1_end_31 fl_X1_53 (isX_dra o8) rfl (fun _ _ _ h => Or.inl (by cases h; rfl)) (ab_ok_i _) ?_
    refine xo_vr (pc := 34) dX1_end_34 rfl ?_
    (rw [FX1_end]; (first | rw [if_neg c_4] | (dsimp only; rw [if_neg c_4])); (first | done | rfl | (dsimp only; done)))
def FX1_startDriver  (x : xD) : xD :=
  let x1 : xD := (ab_up x.1 3 1 (nI (1)), x.2)
  let x2 : xD := (ab_up x1.1 1 4 ((x1.1 1 4) + (nI (1))), x1.2)
  x2
set_option maxRecDepth 100000 in
set_option maxHeartbeats 4000000 in
theorem c_X1_startDriver {tt : Prop}  (x : xD) (hD : True) : ab_Met mX1_startDriver 0 0 0 tt [.ref (1 : Nat)] (sX x) (xQv (FX1_startDriver  x)) := by
  refine ab_Met.of rfl (Nat.le_of_ble_eq_true rfl) ?_
  show xV mX1_startDriver 0 tt (xQv (FX1_startDriver  x)) 0 [some (.ref (1 : Nat))] [] x
  refine ab_aload_n (pc := 0) dX1_startDriver_0 rfl rfl ?_
  refine xo_gr (pc := 1) (a := (3 : Nat)) dX1_startDriver_1 fl_X1_17 (by decide) rfl rfl ?_
  refine ab_iconst (pc := 4) (v := nI 1) dX1_startDriver_4 (by decide) ?_
  refine ab_iconst (pc := 5) (v := nI 1) dX1_startDriver_5 (by decide) ?_
  refine xo_zst (pc := 6) dX1_startDriver_6 (by decide) rfl (by decide) (by decide) (Or.inr rfl) ?_
  refine ab_aload_n (pc := 7) dX1_startDriver_7 rfl rfl ?_
  refine ab_dup (pc := 8) dX1_startDriver_8 rfl ?_
  refine xo_gi (pc := 9) dX1_startDriver_9 fl_X1_32 (by decide) rfl ?_
  refine ab_iconst (pc := 12) (v := nI 1) dX1_startDriver_12 (by decide) ?_
  refine ab_iadd (pc := 13) dX1_startDriver_13 ?_
  refine xo_pi (pc := 14) dX1_startDriver_14 fl_X1_32 (by decide) rfl (fun _ _ _ h => Or.inl (by cases h; rfl)) (ab_ok_i _) ?_
  refine xo_vr (pc := 17) dX1_startDriver_17 rfl ?_
  first | rfl | (rw [FX1_startDriver]; done) | (rw [FX1_startDriver]; rfl)
def FX1_livingUsers_4 : Nat → Int32 → Nat → xD → Int32
  | 0, _, _, _ => 0
  | n + 1, a1, a2, x =>
    if 12 ≤ a2 then
      (a1)
    else
      if (x.1 3 a2) = 0 then
        FX1_livingUsers_4 n ((a1) + (nI (0))) (a2 + 1) x
      else
        FX1_livingUsers_4 n ((a1) + (nI (1))) (a2 + 1) x
def DX1_livingUsers_4 : Nat → Int32 → Nat → xD → Prop
  | 0, _, _, _ => False
  | n + 1, a1, a2, x =>
    (a2 < 2147483648) ∧
    ((12 ≤ a2) →
      True) ∧
    (¬ (12 ≤ a2) →
      (a2 < 12) ∧
      (((x.1 3 a2) = 0) →
        DX1_livingUsers_4 n ((a1) + (nI (0))) (a2 + 1) x) ∧
      (¬ ((x.1 3 a2) = 0) →
        DX1_livingUsers_4 n ((a1) + (nI (1))) (a2 + 1) x))
set_option maxRecDepth 100000 in
set_option maxHeartbeats 4000000 in
theorem w_X1_livingUsers_4 {tt : Prop} : ∀ (n : Nat) (a1 : Int32) (a2 : Nat) (x : xD) (hD : DX1_livingUsers_4 n a1 a2 x), xV mX1_livingUsers 0 tt (xQi (FX1_livingUsers_4 n a1 a2 x, x)) 4 [some (.ref (1 : Nat)), some (.int (a1)), some (.int (nI (a2)))] [] x := by
  intro n
  induction n with
  | zero => intros; rename_i hD; exact hD.elim
  | succ n ih =>
    intro a1 a2 x hD
    refine ab_iload_n (pc := 4) dX1_livingUsers_4 rfl rfl ?_
    refine ab_bipush (pc := 5) (v := nI 12) dX1_livingUsers_5 (by decide) ?_
    obtain ⟨o1, hD⟩ := hD
    refine ab_icmp_geN (pc := 7) (tgt := 33) dX1_livingUsers_7 (by decide) o1 (by decide) (fun c_7 => ?_) (fun c_7 => ?_)
    · refine ab_iload_n (pc := 33) dX1_livingUsers_33 rfl rfl ?_
      refine xo_ir (pc := 34) dX1_livingUsers_34 rfl rfl ?_
      (rw [FX1_livingUsers_4]; (first | rw [if_pos c_7] | (dsimp only; rw [if_pos c_7])); (first | done | rfl | (dsimp only; done)))
    · replace hD := hD.2 c_7
      refine ab_iload_n (pc := 10) dX1_livingUsers_10 rfl rfl ?_
      refine ab_aload_n (pc := 11) dX1_livingUsers_11 rfl rfl ?_
      refine xo_gr (pc := 12) (a := (3 : Nat)) dX1_livingUsers_12 fl_X1_17 (by decide) rfl rfl ?_
      refine ab_iload_n (pc := 15) dX1_livingUsers_15 rfl rfl ?_
      obtain ⟨o2, hD⟩ := hD
      refine xo_zld (pc := 16) dX1_livingUsers_16 (by decide) rfl o2 (by decide) ?_
      refine ab_if_eq (pc := 17) (tgt := 24) dX1_livingUsers_17 (by decide) (fun c_17 => ?_) (fun c_17 => ?_)
      · replace hD := hD.1 c_17
        refine ab_iconst (pc := 24) (v := nI 0) dX1_livingUsers_24 (by decide) ?_
        refine ab_iadd (pc := 25) dX1_livingUsers_25 ?_
        refine ab_istore_n (pc := 26) dX1_livingUsers_26 rfl (Nat.le_of_ble_eq_true rfl) rfl ?_
        refine ab_iinc (pc := 27) dX1_livingUsers_27 rfl (ab_inc _) (Nat.le_of_ble_eq_true rfl) rfl ?_
        refine ab_goto (pc := 30) (tgt := 4) dX1_livingUsers_30 (by decide) ?_
        refine xo_eqr ?_ (ih _ _ _ hD)
        (rw [FX1_livingUsers_4]; (first | rw [if_neg c_7] | (dsimp only; rw [if_neg c_7])); (first | rw [if_pos c_17] | (dsimp only; rw [if_pos c_17])); (first | done | rfl | (dsimp only; done)))
      · replace hD := hD.2 c_17
        refine ab_iconst (pc := 20) (v := nI 1) dX1_livingUsers_20 (by decide) ?_
        refine ab_goto (pc := 21) (tgt := 25) dX1_livingUsers_21 (by decide) ?_
        refine ab_iadd (pc := 25) dX1_livingUsers_25 ?_
        refine ab_istore_n (pc := 26) dX1_livingUsers_26 rfl (Nat.le_of_ble_eq_true rfl) rfl ?_
        refine ab_iinc (pc := 27) dX1_livingUsers_27 rfl (ab_inc _) (Nat.le_of_ble_eq_true rfl) rfl ?_
        refine ab_goto (pc := 30) (tgt := 4) dX1_livingUsers_30 (by decide) ?_
        refine xo_eqr ?_ (ih _ _ _ hD)
        (rw [FX1_livingUsers_4]; (first | rw [if_neg c_7] | (dsimp only; rw [if_neg c_7])); (first | rw [if_neg c_17] | (dsimp only; rw [if_neg c_17])); (first | done | rfl | (dsimp only; done)))
def FX1_livingUsers  (x : xD) : Int32 :=
  FX1_livingUsers_4 9 (nI (0)) 4 x
def DX1_livingUsers  (x : xD) : Prop :=
  DX1_livingUsers_4 9 (nI (0)) 4 x
set_option maxRecDepth 100000 in
set_option maxHeartbeats 4000000 in
theorem c_X1_livingUsers {tt : Prop}  (x : xD) (hD : DX1_livingUsers  x) : ab_Met mX1_livingUsers 0 0 0 tt [.ref (1 : Nat)] (sX x) (xQi (FX1_livingUsers  x, x)) := by
  refine ab_Met.of rfl (Nat.le_of_ble_eq_true rfl) ?_
  show xV mX1_livingUsers 0 tt (xQi (FX1_livingUsers  x, x)) 0 [some (.ref (1 : Nat)), none, none] [] x
  refine ab_iconst (pc := 0) (v := nI 0) dX1_livingUsers_0 (by decide) ?_
  refine ab_istore_n (pc := 1) dX1_livingUsers_1 rfl (Nat.le_of_ble_eq_true rfl) rfl ?_
  refine ab_iconst (pc := 2) (v := nI 4) dX1_livingUsers_2 (by decide) ?_
  refine ab_istore_n (pc := 3) dX1_livingUsers_3 rfl (Nat.le_of_ble_eq_true rfl) rfl ?_
  refine xo_eqr ?_ (w_X1_livingUsers_4 9 _ _ _ hD)
  first | rfl | (rw [FX1_livingUsers]; done) | (rw [FX1_livingUsers]; rfl)
def FX9_hasCall (u : Int32) (x : xD) : Int32 :=
  if (FX10_isUser (u)) = 0 then
    (nI (0))
  else
    if (x.1 363 ((u).toNatClampNeg)) = 0 then
      (nI (0))
    else
      (nI (1))
def DX9_hasCall (u : Int32) (x : xD) : Prop :=
  (((FX10_isUser (u)) = 0) →
    True) ∧
  (¬ ((FX10_isUser (u)) = 0) →
    (¬ (u) < 0) ∧
    (((u).toNatClampNeg) < 12) ∧
    True)
set_option maxRecDepth 100000 in
set_option maxHeartbeats 4000000 in
theorem c_X9_hasCall {tt : Prop} (u : Int32) (x : xD) (hD : DX9_hasCall u x) : ab_Met mX9_hasCall 1 0 0 tt [.ref (362 : Nat), .int (u)] (sX x) (xQi (FX9_hasCall u x, x)) := by
  refine ab_Met.of rfl (Nat.le_of_ble_eq_true rfl) ?_
  show xV mX9_hasCall 1 tt (xQi (FX9_hasCall u x, x)) 0 [some (.ref (362 : Nat)), some (.int (u))] [] x
  refine ab_iload_n (pc := 0) dX9_hasCall_0 rfl rfl ?_
  refine xo_invsN (N := mX10_isUser) (pc := 1) (d' := 0) (av := [_]) dX9_hasCall_1 nn_X9_22 fs_X10_isUser (Nat.le_of_ble_eq_true rfl) (by decide) (c_X10_isUser _ _ trivial) ?_
  refine ab_if_eq (pc := 4) (tgt := 20) dX9_hasCall_4 (by decide) (fun c_4 => ?_) (fun c_4 => ?_)
  · refine ab_iconst (pc := 20) (v := nI 0) dX9_hasCall_20 (by decide) ?_
    refine xo_ir (pc := 21) dX9_hasCall_21 rfl (ab_nb (Or.inl rfl)) ?_
    (rw [FX9_hasCall]; (first | rw [if_pos c_4] | (dsimp only; rw [if_pos c_4])); (first | done | rfl | (dsimp only; done)))
  · replace hD := hD.2 c_4
    refine ab_aload_n (pc := 7) dX9_hasCall_7 rfl rfl ?_
    refine xo_gr (pc := 8) (a := (363 : Nat)) dX9_hasCall_8 fl_X9_9 (by decide) rfl rfl ?_
    refine ab_iload_n (pc := 11) dX9_hasCall_11 rfl rfl ?_
    obtain ⟨o1, hD⟩ := hD
    refine ab_nat1 (ab_nat o1) ?_
    obtain ⟨o2, hD⟩ := hD
    refine xo_zld (pc := 12) dX9_hasCall_12 (by decide) rfl o2 (by decide) ?_
    refine ab_if_eq (pc := 13) (tgt := 20) dX9_hasCall_13 (by decide) (fun c_13 => ?_) (fun c_13 => ?_)
    · refine ab_iconst (pc := 20) (v := nI 0) dX9_hasCall_20 (by decide) ?_
      refine xo_ir (pc := 21) dX9_hasCall_21 rfl (ab_nb (Or.inl rfl)) ?_
      (rw [FX9_hasCall]; (first | rw [if_neg c_4] | (dsimp only; rw [if_neg c_4])); (first | rw [if_pos c_13] | (dsimp only; rw [if_pos c_13])); (first | done | rfl | (dsimp only; done)))
    · refine ab_iconst (pc := 16) (v := nI 1) dX9_hasCall_16 (by decide) ?_
      refine ab_goto (pc := 17) (tgt := 21) dX9_hasCall_17 (by decide) ?_
      refine xo_ir (pc := 21) dX9_hasCall_21 rfl (ab_nb (Or.inr rfl)) ?_
      (rw [FX9_hasCall]; (first | rw [if_neg c_4] | (dsimp only; rw [if_neg c_4])); (first | rw [if_neg c_13] | (dsimp only; rw [if_neg c_13])); (first | done | rfl | (dsimp only; done)))
def FX9_setCall (u : Int32) (h : Int32) (x : xD) : xD :=
  if (FX10_isUser (u)) = 0 then
    x
  else
    let x4 : xD := (ab_up x.1 363 ((u).toNatClampNeg) (h), x.2)
    x4
def DX9_setCall (u : Int32) (h : Int32) (x : xD) : Prop :=
  (((FX10_isUser (u)) = 0) →
    True) ∧
  (¬ ((FX10_isUser (u)) = 0) →
    (¬ (u) < 0) ∧
    (((u).toNatClampNeg) < 12) ∧
    ((h) = 0 ∨ (h) = 1) ∧
    let x4 : xD := (ab_up x.1 363 ((u).toNatClampNeg) (h), x.2)
    True)
set_option maxRecDepth 100000 in
set_option maxHeartbeats 4000000 in
theorem c_X9_setCall {tt : Prop} (u : Int32) (h : Int32) (x : xD) (hD : DX9_setCall u h x) : ab_Met mX9_setCall 1 0 0 tt [.ref (362 : Nat), .int (u), .int (h)] (sX x) (xQv (FX9_setCall u h x)) := by
  refine ab_Met.of rfl (Nat.le_of_ble_eq_true rfl) ?_
  show xV mX9_setCall 1 tt (xQv (FX9_setCall u h x)) 0 [some (.ref (362 : Nat)), some (.int (u)), some (.int (h))] [] x
  refine ab_iload_n (pc := 0) dX9_setCall_0 rfl rfl ?_
  refine xo_invsN (N := mX10_isUser) (pc := 1) (d' := 0) (av := [_]) dX9_setCall_1 nn_X9_22 fs_X10_isUser (Nat.le_of_ble_eq_true rfl) (by decide) (c_X10_isUser _ _ trivial) ?_
  refine ab_if_eq (pc := 4) (tgt := 14) dX9_setCall_4 (by decide) (fun c_4 => ?_) (fun c_4 => ?_)
  · refine xo_vr (pc := 14) dX9_setCall_14 rfl ?_
    (rw [FX9_setCall]; (first | rw [if_pos c_4] | (dsimp only; rw [if_pos c_4])); (first | done | rfl | (dsimp only; done)))
  · replace hD := hD.2 c_4
    refine ab_aload_n (pc := 7) dX9_setCall_7 rfl rfl ?_
    refine xo_gr (pc := 8) (a := (363 : Nat)) dX9_setCall_8 fl_X9_9 (by decide) rfl rfl ?_
    refine ab_iload_n (pc := 11) dX9_setCall_11 rfl rfl ?_
    refine ab_iload_n (pc := 12) dX9_setCall_12 rfl rfl ?_
    obtain ⟨o1, hD⟩ := hD
    refine ab_nat3 (ab_nat o1) ?_
    obtain ⟨o2, hD⟩ := hD
    obtain ⟨o3, hD⟩ := hD
    refine xo_zst (pc := 13) dX9_setCall_13 (by decide) rfl o2 (by decide) o3 ?_
    refine xo_vr (pc := 14) dX9_setCall_14 rfl ?_
    (rw [FX9_setCall]; (first | rw [if_neg c_4] | (dsimp only; rw [if_neg c_4])); (first | done | rfl | (dsimp only; done)))
def FX9_takeTurn (u : Int32) (x : xD) : xD :=
  if (FX10_isUser (u)) = 0 then
    x
  else
    let z5 := FX0_take (7 + 28 * ((u).toNatClampNeg)) (nI (0)) x
    ab_o z5.1 (
      z5.2) (fun w6 =>
      if (z5.2.1 w6 2) = (nI (50)) then
        let x10 : xD := (ab_up z5.2.1 364 ((u).toNatClampNeg) (z5.2.1 w6 3), z5.2.2)
        let x15 : xD := (ab_up x10.1 365 ((u).toNatClampNeg) ((x10.1 365 ((u).toNatClampNeg)) + (nI (1))), x10.2)
        let x18 : xD := (ab_up x15.1 363 ((u).toNatClampNeg) (nI (0)), x15.2)
        x18
      else
        z5.2)
def DX9_takeTurn (u : Int32) (x : xD) : Prop :=
  (((FX10_isUser (u)) = 0) →
    True) ∧
  (¬ ((FX10_isUser (u)) = 0) →
    (¬ (u) < 0) ∧
    (((u).toNatClampNeg) < 12) ∧
    (DX0_take (7 + 28 * ((u).toNatClampNeg)) (nI (0)) x) ∧
    let z5 := FX0_take (7 + 28 * ((u).toNatClampNeg)) (nI (0)) x
    (z5.1 = none →
      True) ∧
    (∀ w6 : Nat, z5.1 = some w6 →
      (isX w6 6) ∧
      (((z5.2.1 w6 2) = (nI (50))) →
        (¬ (u) < 0) ∧
        (((u).toNatClampNeg) < 12) ∧
        let x10 : xD := (ab_up z5.2.1 364 ((u).toNatClampNeg) (z5.2.1 w6 3), z5.2.2)
        (¬ (u) < 0) ∧
        (((u).toNatClampNeg) < 12) ∧
        (¬ (u) < 0) ∧
        (((u).toNatClampNeg) < 12) ∧
        let x15 : xD := (ab_up x10.1 365 ((u).toNatClampNeg) ((x10.1 365 ((u).toNatClampNeg)) + (nI (1))), x10.2)
        (¬ (u) < 0) ∧
        (((u).toNatClampNeg) < 12) ∧
        let x18 : xD := (ab_up x15.1 363 ((u).toNatClampNeg) (nI (0)), x15.2)
        True) ∧
      (¬ ((z5.2.1 w6 2) = (nI (50))) →
        True)))
set_option maxRecDepth 100000 in
set_option maxHeartbeats 4000000 in
theorem c_X9_takeTurn {tt : Prop} (u : Int32) (x : xD) (hD : DX9_takeTurn u x) : ab_Met mX9_takeTurn 1 0 0 tt [.ref (362 : Nat), .ref (1 : Nat), .int (u)] (sX x) (xQv (FX9_takeTurn u x)) := by
  refine ab_Met.of rfl (Nat.le_of_ble_eq_true rfl) ?_
  show xV mX9_takeTurn 1 tt (xQv (FX9_takeTurn u x)) 0 [some (.ref (362 : Nat)), some (.ref (1 : Nat)), some (.int (u)), none] [] x
  refine ab_iload_n (pc := 0) dX9_takeTurn_0 rfl rfl ?_
  refine xo_invsN (N := mX10_isUser) (pc := 1) (d' := 0) (av := [_]) dX9_takeTurn_1 nn_X9_22 fs_X10_isUser (Nat.le_of_ble_eq_true rfl) (by decide) (c_X10_isUser _ _ trivial) ?_
  refine ab_if_eq (pc := 4) (tgt := 20) dX9_takeTurn_4 (by decide) (fun c_4 => ?_) (fun c_4 => ?_)
  · refine ab_null (pc := 20) dX9_takeTurn_20 ?_
    refine ab_astore_nN (pc := 21) dX9_takeTurn_21 rfl (Nat.le_of_ble_eq_true rfl) rfl ?_
    refine ab_aload_nN (pc := 22) dX9_takeTurn_22 rfl rfl ?_
    refine ab_ifnullN (pc := 23) (tgt := 62) dX9_takeTurn_23 (by decide) ?_
    refine xo_vr (pc := 62) dX9_takeTurn_62 rfl ?_
    (rw [FX9_takeTurn]; (first | rw [if_pos c_4] | (dsimp only; rw [if_pos c_4])); (first | done | rfl | (dsimp only; done)))
  · replace hD := hD.2 c_4
    refine ab_aload_n (pc := 7) dX9_takeTurn_7 rfl rfl ?_
    refine xo_gr (pc := 8) (a := (2 : Nat)) dX9_takeTurn_8 fl_X9_26 (by decide) rfl rfl ?_
    refine ab_iload_n (pc := 11) dX9_takeTurn_11 rfl rfl ?_
    obtain ⟨o1, hD⟩ := hD
    refine ab_nat1 (ab_nat o1) ?_
    obtain ⟨o2, hD⟩ := hD
    refine xo_ald (pc := 12) dX9_takeTurn_12 (by decide) (Or.inr rfl) rfl o2 (crX_box o2) ?_
    refine ab_iconst (pc := 13) (v := nI 0) dX9_takeTurn_13 (by decide) ?_
    obtain ⟨o3, hD⟩ := hD
    have e4 := c_X0_take (tt := tt) _ _ _ o3
    refine xo_invo (N := mX0_take) (pc := 14) (d' := 0) (av := [_]) dX9_takeTurn_14 ml_X9_32 fv_X0_take (isX_box o2) (Nat.le_of_ble_eq_true rfl) (by decide) e4 (fun c_14 => ?_) (fun w6 c_14 => ?_)
    · refine ab_goto (pc := 17) (tgt := 21) dX9_takeTurn_17 (by decide) ?_
      refine ab_astore_nN (pc := 21) dX9_takeTurn_21 rfl (Nat.le_of_ble_eq_true rfl) rfl ?_
      refine ab_aload_nN (pc := 22) dX9_takeTurn_22 rfl rfl ?_
      refine ab_ifnullN (pc := 23) (tgt := 62) dX9_takeTurn_23 (by decide) ?_
      refine xo_vr (pc := 62) dX9_takeTurn_62 rfl ?_
      (rw [FX9_takeTurn]; (first | rw [if_neg c_4] | (dsimp only; rw [if_neg c_4])); (first | rw [ab_o_n c_14] | (dsimp only; rw [ab_o_n c_14])); (first | done | rfl | (dsimp only; done)))
    · replace hD := hD.2 w6 c_14
      refine ab_goto (pc := 17) (tgt := 21) dX9_takeTurn_17 (by decide) ?_
      refine ab_astore_n (pc := 21) dX9_takeTurn_21 rfl (Nat.le_of_ble_eq_true rfl) rfl ?_
      refine ab_aload_n (pc := 22) dX9_takeTurn_22 rfl rfl ?_
      refine ab_ifnull (pc := 23) dX9_takeTurn_23 ?_
      refine ab_aload_n (pc := 26) dX9_takeTurn_26 rfl rfl ?_
      obtain ⟨o7, hD⟩ := hD
      refine xo_gi (pc := 27) dX9_takeTurn_27 fl_X9_38 o7 rfl ?_
      refine ab_bipush (pc := 30) (v := nI 50) dX9_takeTurn_30 (by decide) ?_
      refine ab_icmp_ne (pc := 32) (tgt := 62) dX9_takeTurn_32 (by decide) (fun c_32 => ?_) (fun c_32 => ?_)
      · refine xo_vr (pc := 62) dX9_takeTurn_62 rfl ?_
        (rw [FX9_takeTurn]; (first | rw [if_neg c_4] | (dsimp only; rw [if_neg c_4])); (first | rw [ab_o_s c_14] | (dsimp only; rw [ab_o_s c_14])); (first | rw [if_neg c_32] | (dsimp only; rw [if_neg c_32])); (first | done | rfl | (dsimp only; done)))
      · replace hD := hD.1 c_32
        refine ab_aload_n (pc := 35) dX9_takeTurn_35 rfl rfl ?_
        refine xo_gr (pc := 36) (a := (364 : Nat)) dX9_takeTurn_36 fl_X9_15 (by decide) rfl rfl ?_
        refine ab_iload_n (pc := 39) dX9_takeTurn_39 rfl rfl ?_
        refine ab_aload_n (pc := 40) dX9_takeTurn_40 rfl rfl ?_
        refine xo_gi (pc := 41) dX9_takeTurn_41 fl_X9_44 o7 rfl ?_
        obtain ⟨o8, hD⟩ := hD
        refine ab_nat3 (ab_nat o8) ?_
        obtain ⟨o9, hD⟩ := hD
        refine xo_ist (pc := 44) dX9_takeTurn_44 (by decide) rfl o9 (by decide) ?_
        refine ab_aload_n (pc := 45) dX9_takeTurn_45 rfl rfl ?_
        refine xo_gr (pc := 46) (a := (365 : Nat)) dX9_takeTurn_46 fl_X9_19 (by decide) rfl rfl ?_
        refine ab_iload_n (pc := 49) dX9_takeTurn_49 rfl rfl ?_
        refine ab_dup2 (pc := 50) dX9_takeTurn_50 rfl rfl ?_
        obtain ⟨o11, hD⟩ := hD
        refine ab_nat1 (ab_nat o11) ?_
        obtain ⟨o12, hD⟩ := hD
        refine xo_ild (pc := 51) dX9_takeTurn_51 (by decide) rfl o12 (by decide) ?_
        refine ab_iconst (pc := 52) (v := nI 1) dX9_takeTurn_52 (by decide) ?_
        refine ab_iadd (pc := 53) dX9_takeTurn_53 ?_
        obtain ⟨o13, hD⟩ := hD
        refine ab_nat3 (ab_nat o13) ?_
        obtain ⟨o14, hD⟩ := hD
        refine xo_ist (pc := 54) dX9_takeTurn_54 (by decide) rfl o14 (by decide) ?_
        refine ab_aload_n (pc := 55) dX9_takeTurn_55 rfl rfl ?_
        refine xo_gr (pc := 56) (a := (363 : Nat)) dX9_takeTurn_56 fl_X9_9 (by decide) rfl rfl ?_
        refine ab_iload_n (pc := 59) dX9_takeTurn_59 rfl rfl ?_
        refine ab_iconst (pc := 60) (v := nI 0) dX9_takeTurn_60 (by decide) ?_
        obtain ⟨o16, hD⟩ := hD
        refine ab_nat3 (ab_nat o16) ?_
        obtain ⟨o17, hD⟩ := hD
        refine xo_zst (pc := 61) dX9_takeTurn_61 (by decide) rfl o17 (by decide) (Or.inl rfl) ?_
        refine xo_vr (pc := 62) dX9_takeTurn_62 rfl ?_
        (rw [FX9_takeTurn]; (first | rw [if_neg c_4] | (dsimp only; rw [if_neg c_4])); (first | rw [ab_o_s c_14] | (dsimp only; rw [ab_o_s c_14])); (first | rw [if_pos c_32] | (dsimp only; rw [if_pos c_32])); (first | done | rfl | (dsimp only; done)))
def FX5_check  (x : xD) : Int32 × xD :=
  if (x.1 343 2) = 0 then
    let x1 : xD := (ab_up x.1 343 2 (nI (1)), x.2)
    let z4 := FX1_send (nI (0)) (nI (1)) (nI (40)) (nI (0)) (nI (0)) x1
    ((nI (0)), z4)
  else
    ((nI (1)), x)
def DX5_check  (x : xD) : Prop :=
  (((x.1 343 2) = 0) →
    let x1 : xD := (ab_up x.1 343 2 (nI (1)), x.2)
    (DX1_send (nI (0)) (nI (1)) (nI (40)) (nI (0)) (nI (0)) x1) ∧
    let z4 := FX1_send (nI (0)) (nI (1)) (nI (40)) (nI (0)) (nI (0)) x1
    True) ∧
  (¬ ((x.1 343 2) = 0) →
    True)
set_option maxRecDepth 100000 in
set_option maxHeartbeats 4000000 in
theorem c_X5_check {tt : Prop}  (x : xD) (hD : DX5_check  x) : ab_Met mX5_check 3 0 0 tt [.ref (343 : Nat), .ref (1 : Nat)] (sX x) (xQi (FX5_check  x)) := by
  refine ab_Met.of rfl (Nat.le_of_ble_eq_true rfl) ?_
  show xV mX5_check 3 tt (xQi (FX5_check  x)) 0 [some (.ref (343 : Nat)), some (.ref (1 : Nat))] [] x
  refine ab_aload_n (pc := 0) dX5_check_0 rfl rfl ?_
  refine xo_gi (pc := 1) dX5_check_1 fl_X5_37 (by decide) rfl ?_
  refine ab_if_eq (pc := 4) (tgt := 9) dX5_check_4 (by decide) (fun c_4 => ?_) (fun c_4 => ?_)
  · replace hD := hD.1 c_4
    refine ab_aload_n (pc := 9) dX5_check_9 rfl rfl ?_
    refine ab_iconst (pc := 10) (v := nI 1) dX5_check_10 (by decide) ?_
    refine xo_pi (pc := 11) dX5_check_11 fl_X5_37 (by decide) rfl (fun _ _ _ h => Or.inl (by cases h; rfl)) (ab_ok_b (Or.inr rfl)) ?_
    refine ab_aload_n (pc := 14) dX5_check_14 rfl rfl ?_
    refine ab_iconst (pc := 15) (v := nI 0) dX5_check_15 (by decide) ?_
    refine ab_iconst (pc := 16) (v := nI 1) dX5_check_16 (by decide) ?_
    refine ab_bipush (pc := 17) (v := nI 40) dX5_check_17 (by decide) ?_
    refine ab_iconst (pc := 19) (v := nI 0) dX5_check_19 (by decide) ?_
    refine ab_iconst (pc := 20) (v := nI 0) dX5_check_20 (by decide) ?_
    obtain ⟨o2, hD⟩ := hD
    have e3 := c_X1_send (tt := tt) _ _ _ _ _ _ o2
    refine xo_invv (N := mX1_send) (pc := 21) (d' := 2) (av := [_, _, _, _, _]) dX5_check_21 ml_X5_48 fv_X1_send (by decide) (Nat.le_of_ble_eq_true rfl) (by decide) e3 ?_
    refine ab_iconst (pc := 24) (v := nI 0) dX5_check_24 (by decide) ?_
    refine xo_ir (pc := 25) dX5_check_25 rfl (ab_nb (Or.inl rfl)) ?_
    (rw [FX5_check]; (first | rw [if_pos c_4] | (dsimp only; rw [if_pos c_4])); (first | done | rfl | (dsimp only; done)))
  · refine ab_iconst (pc := 7) (v := nI 1) dX5_check_7 (by decide) ?_
    refine xo_ir (pc := 8) dX5_check_8 rfl (ab_nb (Or.inr rfl)) ?_
    (rw [FX5_check]; (first | rw [if_neg c_4] | (dsimp only; rw [if_neg c_4])); (first | done | rfl | (dsimp only; done)))
def FX5_watchDead  (x : xD) : xD :=
  let x1 : xD := (ab_up x.1 343 1 ((x.1 343 1) + (nI (1))), x.2)
  if (x1.1 343 1) < (nI (3)) then
    x1
  else
    let x2 : xD := (ab_up x1.1 343 2 (nI (0)), x1.2)
    let z3 := FX1_startDriver  x2
    let z6 := FX1_send (nI (0)) (nI (2)) (nI (42)) (z3.1 1 4) (nI (0)) z3
    z6
def DX5_watchDead  (x : xD) : Prop :=
  let x1 : xD := (ab_up x.1 343 1 ((x.1 343 1) + (nI (1))), x.2)
  (((x1.1 343 1) < (nI (3))) →
    True) ∧
  (¬ ((x1.1 343 1) < (nI (3))) →
    let x2 : xD := (ab_up x1.1 343 2 (nI (0)), x1.2)
    let z3 := FX1_startDriver  x2
    (DX1_send (nI (0)) (nI (2)) (nI (42)) (z3.1 1 4) (nI (0)) z3) ∧
    let z6 := FX1_send (nI (0)) (nI (2)) (nI (42)) (z3.1 1 4) (nI (0)) z3
    True)
set_option maxRecDepth 100000 in
set_option maxHeartbeats 4000000 in
theorem c_X5_watchDead {tt : Prop}  (x : xD) (hD : DX5_watchDead  x) : ab_Met mX5_watchDead 3 0 0 tt [.ref (343 : Nat), .ref (1 : Nat)] (sX x) (xQv (FX5_watchDead  x)) := by
  refine ab_Met.of rfl (Nat.le_of_ble_eq_true rfl) ?_
  show xV mX5_watchDead 3 tt (xQv (FX5_watchDead  x)) 0 [some (.ref (343 : Nat)), some (.ref (1 : Nat))] [] x
  refine ab_aload_n (pc := 0) dX5_watchDead_0 rfl rfl ?_
  refine ab_dup (pc := 1) dX5_watchDead_1 rfl ?_
  refine xo_gi (pc := 2) dX5_watchDead_2 fl_X5_52 (by decide) rfl ?_
  refine ab_iconst (pc := 5) (v := nI 1) dX5_watchDead_5 (by decide) ?_
  refine ab_iadd (pc := 6) dX5_watchDead_6 ?_
  refine xo_pi (pc := 7) dX5_watchDead_7 fl_X5_52 (by decide) rfl (fun _ _ _ h => Or.inl (by cases h; rfl)) (ab_ok_i _) ?_
  refine ab_aload_n (pc := 10) dX5_watchDead_10 rfl rfl ?_
  refine xo_gi (pc := 11) dX5_watchDead_11 fl_X5_52 (by decide) rfl ?_
  refine ab_iconst (pc := 14) (v := nI 3) dX5_watchDead_14 (by decide) ?_
  refine ab_icmp_lt (pc := 15) (tgt := 40) dX5_watchDead_15 (by decide) (fun c_15 => ?_) (fun c_15 => ?_)
  · refine xo_vr (pc := 40) dX5_watchDead_40 rfl ?_
    (rw [FX5_watchDead]; (first | rw [if_pos c_15] | (dsimp only; rw [if_pos c_15])); (first | done | rfl | (dsimp only; done)))
  · replace hD := hD.2 c_15
    refine ab_aload_n (pc := 18) dX5_watchDead_18 rfl rfl ?_
    refine ab_iconst (pc := 19) (v := nI 0) dX5_watchDead_19 (by decide) ?_
    refine xo_pi (pc := 20) dX5_watchDead_20 fl_X5_37 (by decide) rfl (fun _ _ _ h => Or.inl (by cases h; rfl)) (ab_ok_b (Or.inl rfl)) ?_
    refine ab_aload_n (pc := 23) dX5_watchDead_23 rfl rfl ?_
    refine xo_invv (N := mX1_startDriver) (pc := 24) (d' := 0) (av := []) dX5_watchDead_24 ml_X5_55 fv_X1_startDriver (by decide) (Nat.le_of_ble_eq_true rfl) (by decide) (c_X1_startDriver  _ trivial) ?_
    refine ab_aload_n (pc := 27) dX5_watchDead_27 rfl rfl ?_
    refine ab_iconst (pc := 28) (v := nI 0) dX5_watchDead_28 (by decide) ?_
    refine ab_iconst (pc := 29) (v := nI 2) dX5_watchDead_29 (by decide) ?_
    refine ab_bipush (pc := 30) (v := nI 42) dX5_watchDead_30 (by decide) ?_
    refine ab_aload_n (pc := 32) dX5_watchDead_32 rfl rfl ?_
    refine xo_gi (pc := 33) dX5_watchDead_33 fl_X5_58 (by decide) rfl ?_
    refine ab_iconst (pc := 36) (v := nI 0) dX5_watchDead_36 (by decide) ?_
    obtain ⟨o4, hD⟩ := hD
    have e5 := c_X1_send (tt := tt) _ _ _ _ _ _ o4
    refine xo_invv (N := mX1_send) (pc := 37) (d' := 2) (av := [_, _, _, _, _]) dX5_watchDead_37 ml_X5_48 fv_X1_send (by decide) (Nat.le_of_ble_eq_true rfl) (by decide) e5 ?_
    refine xo_vr (pc := 40) dX5_watchDead_40 rfl ?_
    (rw [FX5_watchDead]; (first | rw [if_neg c_15] | (dsimp only; rw [if_neg c_15])); (first | done | rfl | (dsimp only; done)))
def FX5_takeTurn  (x : xD) : Int32 × xD :=
  if (x.1 3 1) = 0 then
    let z18 := FX5_watchDead  x
    ((nI (0)), z18)
  else
    let z3 := FX0_take 7 (nI (0)) x
    ab_o z3.1 (
      if ((z3.2.1 343 0) - (z3.2.1 343 0) / (nI (10)) * (nI (10))) = 0 then
        let z7 := FX5_check  z3.2
        if (z7.1) = 0 then
          ((nI (0)), z7.2)
        else
          ((nI (1)), z7.2)
      else
        ((nI (0)), z3.2)) (fun w4 =>
      if (z3.2.1 w4 2) = 0 then
        ((nI (0)), z3.2)
      else
        if (z3.2.1 w4 2) = (nI (41)) then
          let x12 : xD := (ab_up z3.2.1 343 2 (nI (0)), z3.2.2)
          if ((x12.1 343 0) - (x12.1 343 0) / (nI (10)) * (nI (10))) = 0 then
            let z15 := FX5_check  x12
            if (z15.1) = 0 then
              ((nI (0)), z15.2)
            else
              ((nI (1)), z15.2)
          else
            ((nI (0)), x12)
        else
          if ((z3.2.1 343 0) - (z3.2.1 343 0) / (nI (10)) * (nI (10))) = 0 then
            let z11 := FX5_check  z3.2
            if (z11.1) = 0 then
              ((nI (0)), z11.2)
            else
              ((nI (1)), z11.2)
          else
            ((nI (0)), z3.2))
def DX5_takeTurn  (x : xD) : Prop :=
  (((x.1 3 1) = 0) →
    (DX5_watchDead  x) ∧
    let z18 := FX5_watchDead  x
    True) ∧
  (¬ ((x.1 3 1) = 0) →
    (DX0_take 7 (nI (0)) x) ∧
    let z3 := FX0_take 7 (nI (0)) x
    (z3.1 = none →
      ((((z3.2.1 343 0) - (z3.2.1 343 0) / (nI (10)) * (nI (10))) = 0) →
        (DX5_check  z3.2) ∧
        let z7 := FX5_check  z3.2
        True) ∧
      (¬ (((z3.2.1 343 0) - (z3.2.1 343 0) / (nI (10)) * (nI (10))) = 0) →
        True)) ∧
    (∀ w4 : Nat, z3.1 = some w4 →
      (isX w4 6) ∧
      (((z3.2.1 w4 2) = 0) →
        True) ∧
      (¬ ((z3.2.1 w4 2) = 0) →
        (((z3.2.1 w4 2) = (nI (41))) →
          let x12 : xD := (ab_up z3.2.1 343 2 (nI (0)), z3.2.2)
          ((((x12.1 343 0) - (x12.1 343 0) / (nI (10)) * (nI (10))) = 0) →
            (DX5_check  x12) ∧
            let z15 := FX5_check  x12
            True) ∧
          (¬ (((x12.1 343 0) - (x12.1 343 0) / (nI (10)) * (nI (10))) = 0) →
            True)) ∧
        (¬ ((z3.2.1 w4 2) = (nI (41))) →
          ((((z3.2.1 343 0) - (z3.2.1 343 0) / (nI (10)) * (nI (10))) = 0) →
            (DX5_check  z3.2) ∧
            let z11 := FX5_check  z3.2
            True) ∧
          (¬ (((z3.2.1 343 0) - (z3.2.1 343 0) / (nI (10)) * (nI (10))) = 0) →
            True)))))
set_option maxRecDepth 100000 in
set_option maxHeartbeats 4000000 in
theorem c_X5_takeTurn {tt : Prop}  (x : xD) (hD : DX5_takeTurn  x) : ab_Met mX5_takeTurn 4 0 0 tt [.ref (343 : Nat), .ref (1 : Nat)] (sX x) (xQi (FX5_takeTurn  x)) := by
  refine ab_Met.of rfl (Nat.le_of_ble_eq_true rfl) ?_
  show xV mX5_takeTurn 4 tt (xQi (FX5_takeTurn  x)) 0 [some (.ref (343 : Nat)), some (.ref (1 : Nat)), none] [] x
  refine ab_aload_n (pc := 0) dX5_takeTurn_0 rfl rfl ?_
  refine xo_gr (pc := 1) (a := (3 : Nat)) dX5_takeTurn_1 fl_X5_9 (by decide) rfl rfl ?_
  refine ab_iconst (pc := 4) (v := nI 1) dX5_takeTurn_4 (by decide) ?_
  refine xo_zld (pc := 5) dX5_takeTurn_5 (by decide) rfl (by decide) (by decide) ?_
  refine ab_if_ne (pc := 6) (tgt := 16) dX5_takeTurn_6 (by decide) (fun c_6 => ?_) (fun c_6 => ?_)
  · replace hD := hD.2 c_6
    refine ab_aload_n (pc := 16) dX5_takeTurn_16 rfl rfl ?_
    refine xo_gr (pc := 17) (a := (2 : Nat)) dX5_takeTurn_17 fl_X5_21 (by decide) rfl rfl ?_
    refine ab_iconst (pc := 20) (v := nI 0) dX5_takeTurn_20 (by decide) ?_
    refine xo_ald (pc := 21) dX5_takeTurn_21 (by decide) (Or.inr rfl) rfl (by decide) (crX_box (by decide)) ?_
    refine ab_top (w := .ref (7 : Nat)) rfl ?_
    refine ab_iconst (pc := 22) (v := nI 0) dX5_takeTurn_22 (by decide) ?_
    obtain ⟨o1, hD⟩ := hD
    have e2 := c_X0_take (tt := tt) _ _ _ o1
    refine xo_invo (N := mX0_take) (pc := 23) (d' := 0) (av := [_]) dX5_takeTurn_23 ml_X5_25 fv_X0_take (by decide) (Nat.le_of_ble_eq_true rfl) (by decide) e2 (fun c_23 => ?_) (fun w4 c_23 => ?_)
    · replace hD := hD.1 c_23
      refine ab_astore_nN (pc := 26) dX5_takeTurn_26 rfl (Nat.le_of_ble_eq_true rfl) rfl ?_
      refine ab_aload_nN (pc := 27) dX5_takeTurn_27 rfl rfl ?_
      refine ab_ifnullN (pc := 28) (tgt := 40) dX5_takeTurn_28 (by decide) ?_
      refine ab_aload_nN (pc := 40) dX5_takeTurn_40 rfl rfl ?_
      refine ab_ifnullN (pc := 41) (tgt := 58) dX5_takeTurn_41 (by decide) ?_
      refine ab_aload_n (pc := 58) dX5_takeTurn_58 rfl rfl ?_
      refine xo_gi (pc := 59) dX5_takeTurn_59 fl_X5_41 (by decide) rfl ?_
      refine ab_bipush (pc := 62) (v := nI 10) dX5_takeTurn_62 (by decide) ?_
      refine ab_irem (pc := 64) dX5_takeTurn_64 (by decide) ?_
      refine ab_if_ne (pc := 65) (tgt := 80) dX5_takeTurn_65 (by decide) (fun c_65 => ?_) (fun c_65 => ?_)
      · refine ab_iconst (pc := 80) (v := nI 0) dX5_takeTurn_80 (by decide) ?_
        refine xo_ir (pc := 81) dX5_takeTurn_81 rfl (ab_nb (Or.inl rfl)) ?_
        (rw [FX5_takeTurn]; (first | rw [if_neg c_6] | (dsimp only; rw [if_neg c_6])); (first | rw [ab_o_n c_23] | (dsimp only; rw [ab_o_n c_23])); (first | rw [if_neg c_65] | (dsimp only; rw [if_neg c_65])); (first | done | rfl | (dsimp only; done)))
      · replace hD := hD.1 c_65
        refine ab_aload_n (pc := 68) dX5_takeTurn_68 rfl rfl ?_
        refine ab_aload_n (pc := 69) dX5_takeTurn_69 rfl rfl ?_
        obtain ⟨o5, hD⟩ := hD
        have e6 := c_X5_check (tt := tt)  _ o5
        refine xo_invi (N := mX5_check) (pc := 70) (d' := 3) (av := [_]) dX5_takeTurn_70 ml_X5_44 fv_X5_check (by decide) (Nat.le_of_ble_eq_true rfl) (by decide) e6 ?_
        refine ab_if_eq (pc := 73) (tgt := 80) dX5_takeTurn_73 (by decide) (fun c_73 => ?_) (fun c_73 => ?_)
        · refine ab_iconst (pc := 80) (v := nI 0) dX5_takeTurn_80 (by decide) ?_
          refine xo_ir (pc := 81) dX5_takeTurn_81 rfl (ab_nb (Or.inl rfl)) ?_
          (rw [FX5_takeTurn]; (first | rw [if_neg c_6] | (dsimp only; rw [if_neg c_6])); (first | rw [ab_o_n c_23] | (dsimp only; rw [ab_o_n c_23])); (first | rw [if_pos c_65] | (dsimp only; rw [if_pos c_65])); (first | rw [if_pos c_73] | (dsimp only; rw [if_pos c_73])); (first | done | rfl | (dsimp only; done)))
        · refine ab_iconst (pc := 76) (v := nI 1) dX5_takeTurn_76 (by decide) ?_
          refine ab_goto (pc := 77) (tgt := 81) dX5_takeTurn_77 (by decide) ?_
          refine xo_ir (pc := 81) dX5_takeTurn_81 rfl (ab_nb (Or.inr rfl)) ?_
          (rw [FX5_takeTurn]; (first | rw [if_neg c_6] | (dsimp only; rw [if_neg c_6])); (first | rw [ab_o_n c_23] | (dsimp only; rw [ab_o_n c_23])); (first | rw [if_pos c_65] | (dsimp only; rw [if_pos c_65])); (first | rw [if_neg c_73] | (dsimp only; rw [if_neg c_73])); (first | done | rfl | (dsimp only; done)))
    · replace hD := hD.2 w4 c_23
      refine ab_astore_n (pc := 26) dX5_takeTurn_26 rfl (Nat.le_of_ble_eq_true rfl) rfl ?_
      refine ab_aload_n (pc := 27) dX5_takeTurn_27 rfl rfl ?_
      refine ab_ifnull (pc := 28) dX5_takeTurn_28 ?_
      refine ab_aload_n (pc := 31) dX5_takeTurn_31 rfl rfl ?_
      obtain ⟨o8, hD⟩ := hD
      refine xo_gi (pc := 32) dX5_takeTurn_32 fl_X5_31 o8 rfl ?_
      refine ab_if_ne (pc := 35) (tgt := 40) dX5_takeTurn_35 (by decide) (fun c_35 => ?_) (fun c_35 => ?_)
      · replace hD := hD.2 c_35
        refine ab_aload_n (pc := 40) dX5_takeTurn_40 rfl rfl ?_
        refine ab_ifnull (pc := 41) dX5_takeTurn_41 ?_
        refine ab_aload_n (pc := 44) dX5_takeTurn_44 rfl rfl ?_
        refine xo_gi (pc := 45) dX5_takeTurn_45 fl_X5_31 o8 rfl ?_
        refine ab_bipush (pc := 48) (v := nI 41) dX5_takeTurn_48 (by decide) ?_
        refine ab_icmp_ne (pc := 50) (tgt := 58) dX5_takeTurn_50 (by decide) (fun c_50 => ?_) (fun c_50 => ?_)
        · replace hD := hD.2 c_50
          refine ab_aload_n (pc := 58) dX5_takeTurn_58 rfl rfl ?_
          refine xo_gi (pc := 59) dX5_takeTurn_59 fl_X5_41 (by decide) rfl ?_
          refine ab_bipush (pc := 62) (v := nI 10) dX5_takeTurn_62 (by decide) ?_
          refine ab_irem (pc := 64) dX5_takeTurn_64 (by decide) ?_
          refine ab_if_ne (pc := 65) (tgt := 80) dX5_takeTurn_65 (by decide) (fun c_65 => ?_) (fun c_65 => ?_)
          · refine ab_iconst (pc := 80) (v := nI 0) dX5_takeTurn_80 (by decide) ?_
            refine xo_ir (pc := 81) dX5_takeTurn_81 rfl (ab_nb (Or.inl rfl)) ?_
            (rw [FX5_takeTurn]; (first | rw [if_neg c_6] | (dsimp only; rw [if_neg c_6])); (first | rw [ab_o_s c_23] | (dsimp only; rw [ab_o_s c_23])); (first | rw [if_neg c_35] | (dsimp only; rw [if_neg c_35])); (first | rw [if_neg c_50] | (dsimp only; rw [if_neg c_50])); (first | rw [if_neg c_65] | (dsimp only; rw [if_neg c_65])); (first | done | rfl | (dsimp only; done)))
          · replace hD := hD.1 c_65
            refine ab_aload_n (pc := 68) dX5_takeTurn_68 rfl rfl ?_
            refine ab_aload_n (pc := 69) dX5_takeTurn_69 rfl rfl ?_
            obtain ⟨o9, hD⟩ := hD
            have e10 := c_X5_check (tt := tt)  _ o9
            refine xo_invi (N := mX5_check) (pc := 70) (d' := 3) (av := [_]) dX5_takeTurn_70 ml_X5_44 fv_X5_check (by decide) (Nat.le_of_ble_eq_true rfl) (by decide) e10 ?_
            refine ab_if_eq (pc := 73) (tgt := 80) dX5_takeTurn_73 (by decide) (fun c_73 => ?_) (fun c_73 => ?_)
            · refine ab_iconst (pc := 80) (v := nI 0) dX5_takeTurn_80 (by decide) ?_
              refine xo_ir (pc := 81) dX5_takeTurn_81 rfl (ab_nb (Or.inl rfl)) ?_
              (rw [FX5_takeTurn]; (first | rw [if_neg c_6] | (dsimp only; rw [if_neg c_6])); (first | rw [ab_o_s c_23] | (dsimp only; rw [ab_o_s c_23])); (first | rw [if_neg c_35] | (dsimp only; rw [if_neg c_35])); (first | rw [if_neg c_50] | (dsimp only; rw [if_neg c_50])); (first | rw [if_pos c_65] | (dsimp only; rw [if_pos c_65])); (first | rw [if_pos c_73] | (dsimp only; rw [if_pos c_73])); (first | done | rfl | (dsimp only; done)))
            · refine ab_iconst (pc := 76) (v := nI 1) dX5_takeTurn_76 (by decide) ?_
              refine ab_goto (pc := 77) (tgt := 81) dX5_takeTurn_77 (by decide) ?_
              refine xo_ir (pc := 81) dX5_takeTurn_81 rfl (ab_nb (Or.inr rfl)) ?_
              (rw [FX5_takeTurn]; (first | rw [if_neg c_6] | (dsimp only; rw [if_neg c_6])); (first | rw [ab_o_s c_23] | (dsimp only; rw [ab_o_s c_23])); (first | rw [if_neg c_35] | (dsimp only; rw [if_neg c_35])); (first | rw [if_neg c_50] | (dsimp only; rw [if_neg c_50])); (first | rw [if_pos c_65] | (dsimp only; rw [if_pos c_65])); (first | rw [if_neg c_73] | (dsimp only; rw [if_neg c_73])); (first | done | rfl | (dsimp only; done)))
        · replace hD := hD.1 c_50
          refine ab_aload_n (pc := 53) dX5_takeTurn_53 rfl rfl ?_
          refine ab_iconst (pc := 54) (v := nI 0) dX5_takeTurn_54 (by decide) ?_
          refine xo_pi (pc := 55) dX5_takeTurn_55 fl_X5_37 (by decide) rfl (fun _ _ _ h => Or.inl (by cases h; rfl)) (ab_ok_b (Or.inl rfl)) ?_
          refine ab_aload_n (pc := 58) dX5_takeTurn_58 rfl rfl ?_
          refine xo_gi (pc := 59) dX5_takeTurn_59 fl_X5_41 (by decide) rfl ?_
          refine ab_bipush (pc := 62) (v := nI 10) dX5_takeTurn_62 (by decide) ?_
          refine ab_irem (pc := 64) dX5_takeTurn_64 (by decide) ?_
          refine ab_if_ne (pc := 65) (tgt := 80) dX5_takeTurn_65 (by decide) (fun c_65 => ?_) (fun c_65 => ?_)
          · refine ab_iconst (pc := 80) (v := nI 0) dX5_takeTurn_80 (by decide) ?_
            refine xo_ir (pc := 81) dX5_takeTurn_81 rfl (ab_nb (Or.inl rfl)) ?_
            (rw [FX5_takeTurn]; (first | rw [if_neg c_6] | (dsimp only; rw [if_neg c_6])); (first | rw [ab_o_s c_23] | (dsimp only; rw [ab_o_s c_23])); (first | rw [if_neg c_35] | (dsimp only; rw [if_neg c_35])); (first | rw [if_pos c_50] | (dsimp only; rw [if_pos c_50])); (first | rw [if_neg c_65] | (dsimp only; rw [if_neg c_65])); (first | done | rfl | (dsimp only; done)))
          · replace hD := hD.1 c_65
            refine ab_aload_n (pc := 68) dX5_takeTurn_68 rfl rfl ?_
            refine ab_aload_n (pc := 69) dX5_takeTurn_69 rfl rfl ?_
            obtain ⟨o13, hD⟩ := hD
            have e14 := c_X5_check (tt := tt)  _ o13
            refine xo_invi (N := mX5_check) (pc := 70) (d' := 3) (av := [_]) dX5_takeTurn_70 ml_X5_44 fv_X5_check (by decide) (Nat.le_of_ble_eq_true rfl) (by decide) e14 ?_
            refine ab_if_eq (pc := 73) (tgt := 80) dX5_takeTurn_73 (by decide) (fun c_73 => ?_) (fun c_73 => ?_)
            · refine ab_iconst (pc := 80) (v := nI 0) dX5_takeTurn_80 (by decide) ?_
              refine xo_ir (pc := 81) dX5_takeTurn_81 rfl (ab_nb (Or.inl rfl)) ?_
              (rw [FX5_takeTurn]; (first | rw [if_neg c_6] | (dsimp only; rw [if_neg c_6])); (first | rw [ab_o_s c_23] | (dsimp only; rw [ab_o_s c_23])); (first | rw [if_neg c_35] | (dsimp only; rw [if_neg c_35])); (first | rw [if_pos c_50] | (dsimp only; rw [if_pos c_50])); (first | rw [if_pos c_65] | (dsimp only; rw [if_pos c_65])); (first | rw [if_pos c_73] | (dsimp only; rw [if_pos c_73])); (first | done | rfl | (dsimp only; done)))
            · refine ab_iconst (pc := 76) (v := nI 1) dX5_takeTurn_76 (by decide) ?_
              refine ab_goto (pc := 77) (tgt := 81) dX5_takeTurn_77 (by decide) ?_
              refine xo_ir (pc := 81) dX5_takeTurn_81 rfl (ab_nb (Or.inr rfl)) ?_
              (rw [FX5_takeTurn]; (first | rw [if_neg c_6] | (dsimp only; rw [if_neg c_6])); (first | rw [ab_o_s c_23] | (dsimp only; rw [ab_o_s c_23])); (first | rw [if_neg c_35] | (dsimp only; rw [if_neg c_35])); (first | rw [if_pos c_50] | (dsimp only; rw [if_pos c_50])); (first | rw [if_pos c_65] | (dsimp only; rw [if_pos c_65])); (first | rw [if_neg c_73] | (dsimp only; rw [if_neg c_73])); (first | done | rfl | (dsimp only; done)))
      · refine ab_iconst (pc := 38) (v := nI 0) dX5_takeTurn_38 (by decide) ?_
        refine xo_ir (pc := 39) dX5_takeTurn_39 rfl (ab_nb (Or.inl rfl)) ?_
        (rw [FX5_takeTurn]; (first | rw [if_neg c_6] | (dsimp only; rw [if_neg c_6])); (first | rw [ab_o_s c_23] | (dsimp only; rw [ab_o_s c_23])); (first | rw [if_pos c_35] | (dsimp only; rw [if_pos c_35])); (first | done | rfl | (dsimp only; done)))
  · replace hD := hD.1 c_6
    refine ab_aload_n (pc := 9) dX5_takeTurn_9 rfl rfl ?_
    refine ab_aload_n (pc := 10) dX5_takeTurn_10 rfl rfl ?_
    obtain ⟨o16, hD⟩ := hD
    have e17 := c_X5_watchDead (tt := tt)  _ o16
    refine xo_invv (N := mX5_watchDead) (pc := 11) (d' := 3) (av := [_]) dX5_takeTurn_11 ml_X5_15 fv_X5_watchDead (by decide) (Nat.le_of_ble_eq_true rfl) (by decide) e17 ?_
    refine ab_iconst (pc := 14) (v := nI 0) dX5_takeTurn_14 (by decide) ?_
    refine xo_ir (pc := 15) dX5_takeTurn_15 rfl (ab_nb (Or.inl rfl)) ?_
    (rw [FX5_takeTurn]; (first | rw [if_pos c_6] | (dsimp only; rw [if_pos c_6])); (first | done | rfl | (dsimp only; done)))
def FX2_begin_66 : Nat → Nat → Nat → xD → xD
  | 0, _, _, x => x
  | n + 1, q, a2, x =>
    if 8 ≤ a2 then
      x
    else
      let x10 : xD := (ab_up x.1 346 a2 (x.1 (q + 1) a2), x.2)
      FX2_begin_66 n q (a2 + 1) x10
def DX2_begin_66 : Nat → Nat → Nat → xD → Prop
  | 0, _, _, _ => False
  | n + 1, q, a2, x =>
    (a2 < 2147483648) ∧
    ((8 ≤ a2) →
      True) ∧
    (¬ (8 ≤ a2) →
      (isX q 6) ∧
      (a2 < 8) ∧
      (a2 < 8) ∧
      let x10 : xD := (ab_up x.1 346 a2 (x.1 (q + 1) a2), x.2)
      DX2_begin_66 n q (a2 + 1) x10)
set_option maxRecDepth 100000 in
set_option maxHeartbeats 4000000 in
theorem w_X2_begin_66 {tt : Prop} : ∀ (n : Nat) (q : Nat) (a2 : Nat) (x : xD) (hD : DX2_begin_66 n q a2 x), xV mX2_begin 0 tt (xQv (FX2_begin_66 n q a2 x)) 66 [some (.ref (344 : Nat)), some (.ref (q : Nat)), some (.int (nI (a2)))] [] x := by
  intro n
  induction n with
  | zero => intros; rename_i hD; exact hD.elim
  | succ n ih =>
    intro q a2 x hD
    refine ab_iload_n (pc := 66) dX2_begin_66 rfl rfl ?_
    refine ab_bipush (pc := 67) (v := nI 8) dX2_begin_67 (by decide) ?_
    obtain ⟨o6, hD⟩ := hD
    refine ab_icmp_geN (pc := 69) (tgt := 90) dX2_begin_69 (by decide) o6 (by decide) (fun c_69 => ?_) (fun c_69 => ?_)
    · refine xo_vr (pc := 90) dX2_begin_90 rfl ?_
      (rw [FX2_begin_66]; (first | rw [if_pos c_69] | (dsimp only; rw [if_pos c_69])); (first | done | rfl | (dsimp only; done)))
    · replace hD := hD.2 c_69
      refine ab_aload_n (pc := 72) dX2_begin_72 rfl rfl ?_
      refine xo_gr (pc := 73) (a := (346 : Nat)) dX2_begin_73 fl_X2_15 (by decide) rfl rfl ?_
      refine ab_iload_n (pc := 76) dX2_begin_76 rfl rfl ?_
      refine ab_aload_n (pc := 77) dX2_begin_77 rfl rfl ?_
      obtain ⟨o7, hD⟩ := hD
      refine xo_gr (pc := 78) dX2_begin_78 fl_X2_61 o7 rfl (crX_num o7) ?_
      refine ab_iload_n (pc := 81) dX2_begin_81 rfl rfl ?_
      obtain ⟨o8, hD⟩ := hD
      refine xo_ild (pc := 82) dX2_begin_82 (isX_num o7) (shX_num o7) o8 (by decide) ?_
      obtain ⟨o9, hD⟩ := hD
      refine xo_ist (pc := 83) dX2_begin_83 (by decide) rfl o9 (by decide) ?_
      refine ab_iinc (pc := 84) dX2_begin_84 rfl (ab_inc _) (Nat.le_of_ble_eq_true rfl) rfl ?_
      refine ab_goto (pc := 87) (tgt := 66) dX2_begin_87 (by decide) ?_
      refine xo_eqv ?_ (ih _ _ _ hD)
      (rw [FX2_begin_66]; (first | rw [if_neg c_69] | (dsimp only; rw [if_neg c_69])); (first | done | rfl | (dsimp only; done)))
def FX2_begin (q : Nat) (x : xD) : xD :=
  if (x.1 q 2) = (nI (20)) then
    if (x.1 q 3) < 0 then
      x
    else
      if (x.1 q 3) < (nI (24)) then
        let x2 : xD := (ab_up x.1 344 4 (x.1 q 2), x.2)
        let x3 : xD := (ab_up x2.1 344 5 (x2.1 q 3), x2.2)
        if (x3.1 344 4) = (nI (21)) then
          FX2_begin_66 9 q 0 x3
        else
          x3
      else
        x
  else
    if (x.1 q 2) = (nI (21)) then
      if (x.1 q 3) < 0 then
        x
      else
        if (x.1 q 3) < (nI (24)) then
          let x4 : xD := (ab_up x.1 344 4 (x.1 q 2), x.2)
          let x5 : xD := (ab_up x4.1 344 5 (x4.1 q 3), x4.2)
          if (x5.1 344 4) = (nI (21)) then
            FX2_begin_66 9 q 0 x5
          else
            x5
        else
          x
    else
      x
def DX2_begin (q : Nat) (x : xD) : Prop :=
  (isX q 6) ∧
  (((x.1 q 2) = (nI (20))) →
    (((x.1 q 3) < 0) →
      True) ∧
    (¬ ((x.1 q 3) < 0) →
      (((x.1 q 3) < (nI (24))) →
        let x2 : xD := (ab_up x.1 344 4 (x.1 q 2), x.2)
        let x3 : xD := (ab_up x2.1 344 5 (x2.1 q 3), x2.2)
        (((x3.1 344 4) = (nI (21))) →
          DX2_begin_66 9 q 0 x3) ∧
        (¬ ((x3.1 344 4) = (nI (21))) →
          True)) ∧
      (¬ ((x.1 q 3) < (nI (24))) →
        True))) ∧
  (¬ ((x.1 q 2) = (nI (20))) →
    (((x.1 q 2) = (nI (21))) →
      (((x.1 q 3) < 0) →
        True) ∧
      (¬ ((x.1 q 3) < 0) →
        (((x.1 q 3) < (nI (24))) →
          let x4 : xD := (ab_up x.1 344 4 (x.1 q 2), x.2)
          let x5 : xD := (ab_up x4.1 344 5 (x4.1 q 3), x4.2)
          (((x5.1 344 4) = (nI (21))) →
            DX2_begin_66 9 q 0 x5) ∧
          (¬ ((x5.1 344 4) = (nI (21))) →
            True)) ∧
        (¬ ((x.1 q 3) < (nI (24))) →
          True))) ∧
    (¬ ((x.1 q 2) = (nI (21))) →
      True))
set_option maxRecDepth 100000 in
set_option maxHeartbeats 4000000 in
theorem c_X2_begin {tt : Prop} (q : Nat) (x : xD) (hD : DX2_begin q x) : ab_Met mX2_begin 0 0 0 tt [.ref (344 : Nat), .ref (q : Nat)] (sX x) (xQv (FX2_begin q x)) := by
  refine ab_Met.of rfl (Nat.le_of_ble_eq_true rfl) ?_
  show xV mX2_begin 0 tt (xQv (FX2_begin q x)) 0 [some (.ref (344 : Nat)), some (.ref (q : Nat)), none] [] x
  refine ab_aload_n (pc := 0) dX2_begin_0 rfl rfl ?_
  refine ab_ifnull (pc := 1) dX2_begin_1 ?_
  refine ab_aload_n (pc := 4) dX2_begin_4 rfl rfl ?_
  obtain ⟨o1, hD⟩ := hD
  refine xo_gi (pc := 5) dX2_begin_5 fl_X2_50 o1 rfl ?_
  refine ab_bipush (pc := 8) (v := nI 20) dX2_begin_8 (by decide) ?_
  refine ab_icmp_eq (pc := 10) (tgt := 22) dX2_begin_10 (by decide) (fun c_10 => ?_) (fun c_10 => ?_)
  · replace hD := hD.1 c_10
    refine ab_aload_n (pc := 22) dX2_begin_22 rfl rfl ?_
    refine xo_gi (pc := 23) dX2_begin_23 fl_X2_55 o1 rfl ?_
    refine ab_if_lt (pc := 26) (tgt := 38) dX2_begin_26 (by decide) (fun c_26 => ?_) (fun c_26 => ?_)
    · refine xo_vr (pc := 38) dX2_begin_38 rfl ?_
      (rw [FX2_begin]; (first | rw [if_pos c_10] | (dsimp only; rw [if_pos c_10])); (first | rw [if_pos c_26] | (dsimp only; rw [if_pos c_26])); (first | done | rfl | (dsimp only; done)))
    · replace hD := hD.2 c_26
      refine ab_aload_n (pc := 29) dX2_begin_29 rfl rfl ?_
      refine xo_gi (pc := 30) dX2_begin_30 fl_X2_55 o1 rfl ?_
      refine ab_bipush (pc := 33) (v := nI 24) dX2_begin_33 (by decide) ?_
      refine ab_icmp_lt (pc := 35) (tgt := 39) dX2_begin_35 (by decide) (fun c_35 => ?_) (fun c_35 => ?_)
      · replace hD := hD.1 c_35
        refine ab_aload_n (pc := 39) dX2_begin_39 rfl rfl ?_
        refine ab_aload_n (pc := 40) dX2_begin_40 rfl rfl ?_
        refine xo_gi (pc := 41) dX2_begin_41 fl_X2_50 o1 rfl ?_
        refine xo_pi (pc := 44) dX2_begin_44 fl_X2_18 (by decide) rfl (fun _ _ _ h => Or.inl (by cases h; rfl)) (ab_ok_i _) ?_
        refine ab_aload_n (pc := 47) dX2_begin_47 rfl rfl ?_
        refine ab_aload_n (pc := 48) dX2_begin_48 rfl rfl ?_
        refine xo_gi (pc := 49) dX2_begin_49 fl_X2_55 o1 rfl ?_
        refine xo_pi (pc := 52) dX2_begin_52 fl_X2_58 (by decide) rfl (fun _ _ _ h => Or.inl (by cases h; rfl)) (ab_ok_i _) ?_
        refine ab_aload_n (pc := 55) dX2_begin_55 rfl rfl ?_
        refine xo_gi (pc := 56) dX2_begin_56 fl_X2_18 (by decide) rfl ?_
        refine ab_bipush (pc := 59) (v := nI 21) dX2_begin_59 (by decide) ?_
        refine ab_icmp_ne (pc := 61) (tgt := 90) dX2_begin_61 (by decide) (fun c_61 => ?_) (fun c_61 => ?_)
        · refine xo_vr (pc := 90) dX2_begin_90 rfl ?_
          (rw [FX2_begin]; (first | rw [if_pos c_10] | (dsimp only; rw [if_pos c_10])); (first | rw [if_neg c_26] | (dsimp only; rw [if_neg c_26])); (first | rw [if_pos c_35] | (dsimp only; rw [if_pos c_35])); (first | rw [if_neg c_61] | (dsimp only; rw [if_neg c_61])); (first | done | rfl | (dsimp only; done)))
        · replace hD := hD.1 c_61
          refine ab_iconst (pc := 64) (v := nI 0) dX2_begin_64 (by decide) ?_
          refine ab_istore_n (pc := 65) dX2_begin_65 rfl (Nat.le_of_ble_eq_true rfl) rfl ?_
          refine xo_eqv ?_ (w_X2_begin_66 9 _ _ _ hD)
          (rw [FX2_begin]; (first | rw [if_pos c_10] | (dsimp only; rw [if_pos c_10])); (first | rw [if_neg c_26] | (dsimp only; rw [if_neg c_26])); (first | rw [if_pos c_35] | (dsimp only; rw [if_pos c_35])); (first | rw [if_pos c_61] | (dsimp only; rw [if_pos c_61])); (first | done | rfl | (dsimp only; done)))
      · refine xo_vr (pc := 38) dX2_begin_38 rfl ?_
        (rw [FX2_begin]; (first | rw [if_pos c_10] | (dsimp only; rw [if_pos c_10])); (first | rw [if_neg c_26] | (dsimp only; rw [if_neg c_26])); (first | rw [if_neg c_35] | (dsimp only; rw [if_neg c_35])); (first | done | rfl | (dsimp only; done)))
  · replace hD := hD.2 c_10
    refine ab_aload_n (pc := 13) dX2_begin_13 rfl rfl ?_
    refine xo_gi (pc := 14) dX2_begin_14 fl_X2_50 o1 rfl ?_
    refine ab_bipush (pc := 17) (v := nI 21) dX2_begin_17 (by decide) ?_
    refine ab_icmp_ne (pc := 19) (tgt := 38) dX2_begin_19 (by decide) (fun c_19 => ?_) (fun c_19 => ?_)
    · refine xo_vr (pc := 38) dX2_begin_38 rfl ?_
      (rw [FX2_begin]; (first | rw [if_neg c_10] | (dsimp only; rw [if_neg c_10])); (first | rw [if_neg c_19] | (dsimp only; rw [if_neg c_19])); (first | done | rfl | (dsimp only; done)))
    · replace hD := hD.1 c_19
      refine ab_aload_n (pc := 22) dX2_begin_22 rfl rfl ?_
      refine xo_gi (pc := 23) dX2_begin_23 fl_X2_55 o1 rfl ?_
      refine ab_if_lt (pc := 26) (tgt := 38) dX2_begin_26 (by decide) (fun c_26 => ?_) (fun c_26 => ?_)
      · refine xo_vr (pc := 38) dX2_begin_38 rfl ?_
        (rw [FX2_begin]; (first | rw [if_neg c_10] | (dsimp only; rw [if_neg c_10])); (first | rw [if_pos c_19] | (dsimp only; rw [if_pos c_19])); (first | rw [if_pos c_26] | (dsimp only; rw [if_pos c_26])); (first | done | rfl | (dsimp only; done)))
      · replace hD := hD.2 c_26
        refine ab_aload_n (pc := 29) dX2_begin_29 rfl rfl ?_
        refine xo_gi (pc := 30) dX2_begin_30 fl_X2_55 o1 rfl ?_
        refine ab_bipush (pc := 33) (v := nI 24) dX2_begin_33 (by decide) ?_
        refine ab_icmp_lt (pc := 35) (tgt := 39) dX2_begin_35 (by decide) (fun c_35 => ?_) (fun c_35 => ?_)
        · replace hD := hD.1 c_35
          refine ab_aload_n (pc := 39) dX2_begin_39 rfl rfl ?_
          refine ab_aload_n (pc := 40) dX2_begin_40 rfl rfl ?_
          refine xo_gi (pc := 41) dX2_begin_41 fl_X2_50 o1 rfl ?_
          refine xo_pi (pc := 44) dX2_begin_44 fl_X2_18 (by decide) rfl (fun _ _ _ h => Or.inl (by cases h; rfl)) (ab_ok_i _) ?_
          refine ab_aload_n (pc := 47) dX2_begin_47 rfl rfl ?_
          refine ab_aload_n (pc := 48) dX2_begin_48 rfl rfl ?_
          refine xo_gi (pc := 49) dX2_begin_49 fl_X2_55 o1 rfl ?_
          refine xo_pi (pc := 52) dX2_begin_52 fl_X2_58 (by decide) rfl (fun _ _ _ h => Or.inl (by cases h; rfl)) (ab_ok_i _) ?_
          refine ab_aload_n (pc := 55) dX2_begin_55 rfl rfl ?_
          refine xo_gi (pc := 56) dX2_begin_56 fl_X2_18 (by decide) rfl ?_
          refine ab_bipush (pc := 59) (v := nI 21) dX2_begin_59 (by decide) ?_
          refine ab_icmp_ne (pc := 61) (tgt := 90) dX2_begin_61 (by decide) (fun c_61 => ?_) (fun c_61 => ?_)
          · refine xo_vr (pc := 90) dX2_begin_90 rfl ?_
            (rw [FX2_begin]; (first | rw [if_neg c_10] | (dsimp only; rw [if_neg c_10])); (first | rw [if_pos c_19] | (dsimp only; rw [if_pos c_19])); (first | rw [if_neg c_26] | (dsimp only; rw [if_neg c_26])); (first | rw [if_pos c_35] | (dsimp only; rw [if_pos c_35])); (first | rw [if_neg c_61] | (dsimp only; rw [if_neg c_61])); (first | done | rfl | (dsimp only; done)))
          · replace hD := hD.1 c_61
            refine ab_iconst (pc := 64) (v := nI 0) dX2_begin_64 (by decide) ?_
            refine ab_istore_n (pc := 65) dX2_begin_65 rfl (Nat.le_of_ble_eq_true rfl) rfl ?_
            refine xo_eqv ?_ (w_X2_begin_66 9 _ _ _ hD)
            (rw [FX2_begin]; (first | rw [if_neg c_10] | (dsimp only; rw [if_neg c_10])); (first | rw [if_pos c_19] | (dsimp only; rw [if_pos c_19])); (first | rw [if_neg c_26] | (dsimp only; rw [if_neg c_26])); (first | rw [if_pos c_35] | (dsimp only; rw [if_pos c_35])); (first | rw [if_pos c_61] | (dsimp only; rw [if_pos c_61])); (first | done | rfl | (dsimp only; done)))
        · refine xo_vr (pc := 38) dX2_begin_38 rfl ?_
          (rw [FX2_begin]; (first | rw [if_neg c_10] | (dsimp only; rw [if_neg c_10])); (first | rw [if_pos c_19] | (dsimp only; rw [if_pos c_19])); (first | rw [if_neg c_26] | (dsimp only; rw [if_neg c_26])); (first | rw [if_neg c_35] | (dsimp only; rw [if_neg c_35])); (first | done | rfl | (dsimp only; done)))
def FX2_begin_n  (x : xD) : xD :=
  x
set_option maxRecDepth 100000 in
set_option maxHeartbeats 4000000 in
theorem c_X2_begin_n {tt : Prop}  (x : xD) (hD : True) : ab_Met mX2_begin 0 0 0 tt [.ref (344 : Nat), .null] (sX x) (xQv (FX2_begin_n  x)) := by
  refine ab_Met.of rfl (Nat.le_of_ble_eq_true rfl) ?_
  show xV mX2_begin 0 tt (xQv (FX2_begin_n  x)) 0 [some (.ref (344 : Nat)), some (.null), none] [] x
  refine ab_aload_nN (pc := 0) dX2_begin_0 rfl rfl ?_
  refine ab_ifnullN (pc := 1) (tgt := 38) dX2_begin_1 (by decide) ?_
  refine xo_vr (pc := 38) dX2_begin_38 rfl ?_
  first | rfl | (rw [FX2_begin_n]; done) | (rw [FX2_begin_n]; rfl)
def FX2_work_56 : Nat → Int32 → Nat → xD → xD
  | 0, _, _, x => x
  | n + 1, a2, a3, x =>
    if 8 ≤ a3 then
      let x16 : xD := (ab_up x.1 344 4 (-1), x.2)
      let z19 := FX1_draft (nI (1)) (nI (22)) (nI (0)) (nI (0)) x16
      ab_o z19.1 (
        z19.2) (fun w20 =>
        let z24 := FX6_setNumbers w20 345 (a2) z19.2
        let z27 := FX1_post w20 (nI (2)) z24
        z27.2)
    else
      let x31 : xD := (ab_up x.1 345 (((a2) + (nI (a3))).toNatClampNeg) (x.1 346 a3), x.2)
      FX2_work_56 n (a2) (a3 + 1) x31
def DX2_work_56 : Nat → Int32 → Nat → xD → Prop
  | 0, _, _, _ => False
  | n + 1, a2, a3, x =>
    (a3 < 2147483648) ∧
    ((8 ≤ a3) →
      let x16 : xD := (ab_up x.1 344 4 (-1), x.2)
      (DX1_draft (nI (1)) (nI (22)) (nI (0)) (nI (0)) x16) ∧
      let z19 := FX1_draft (nI (1)) (nI (22)) (nI (0)) (nI (0)) x16
      (z19.1 = none →
        True) ∧
      (∀ w20 : Nat, z19.1 = some w20 →
        (isX w20 6) ∧
        (DX6_setNumbers w20 345 (a2) z19.2) ∧
        let z24 := FX6_setNumbers w20 345 (a2) z19.2
        (DX1_post w20 (nI (2)) z24) ∧
        let z27 := FX1_post w20 (nI (2)) z24
        True)) ∧
    (¬ (8 ≤ a3) →
      (a3 < 8) ∧
      (¬ ((a2) + (nI (a3))) < 0) ∧
      ((((a2) + (nI (a3))).toNatClampNeg) < 192) ∧
      let x31 : xD := (ab_up x.1 345 (((a2) + (nI (a3))).toNatClampNeg) (x.1 346 a3), x.2)
      DX2_work_56 n (a2) (a3 + 1) x31)
set_option maxRecDepth 100000 in
set_option maxHeartbeats 4000000 in
theorem w_X2_work_56 {tt : Prop} : ∀ (n : Nat) (a2 : Int32) (a3 : Nat) (x : xD) (hD : DX2_work_56 n a2 a3 x), xV mX2_work 2 tt (xQv (FX2_work_56 n a2 a3 x)) 56 [some (.ref (344 : Nat)), some (.ref (1 : Nat)), some (.int (a2)), some (.int (nI (a3)))] [] x := by
  intro n
  induction n with
  | zero => intros; rename_i hD; exact hD.elim
  | succ n ih =>
    intro a2 a3 x hD
    refine ab_iload_n (pc := 56) dX2_work_56 rfl rfl ?_
    refine ab_bipush (pc := 57) (v := nI 8) dX2_work_57 (by decide) ?_
    obtain ⟨o15, hD⟩ := hD
    refine ab_icmp_geN (pc := 59) (tgt := 82) dX2_work_59 (by decide) o15 (by decide) (fun c_59 => ?_) (fun c_59 => ?_)
    · replace hD := hD.1 c_59
      refine ab_aload_n (pc := 82) dX2_work_82 rfl rfl ?_
      refine ab_iconst (pc := 83) (v := -1) dX2_work_83 (by decide) ?_
      refine xo_pi (pc := 84) dX2_work_84 fl_X2_18 (by decide) rfl (fun _ _ _ h => Or.inl (by cases h; rfl)) (ab_ok_i _) ?_
      refine ab_aload_n (pc := 87) dX2_work_87 rfl rfl ?_
      refine ab_iconst (pc := 88) (v := nI 1) dX2_work_88 (by decide) ?_
      refine ab_bipush (pc := 89) (v := nI 22) dX2_work_89 (by decide) ?_
      refine ab_iconst (pc := 91) (v := nI 0) dX2_work_91 (by decide) ?_
      refine ab_iconst (pc := 92) (v := nI 0) dX2_work_92 (by decide) ?_
      obtain ⟨o17, hD⟩ := hD
      have e18 := c_X1_draft (tt := tt) _ _ _ _ _ o17
      refine xo_invo (N := mX1_draft) (pc := 93) (d' := 1) (av := [_, _, _, _]) dX2_work_93 ml_X2_65 fv_X1_draft (by decide) (Nat.le_of_ble_eq_true rfl) (by decide) e18 (fun c_93 => ?_) (fun w20 c_93 => ?_)
      · refine ab_astore_nN (pc := 96) dX2_work_96 rfl (Nat.le_of_ble_eq_true rfl) rfl ?_
        refine ab_aload_nN (pc := 97) dX2_work_97 rfl rfl ?_
        refine ab_ifnullN (pc := 98) (tgt := 117) dX2_work_98 (by decide) ?_
        refine xo_vr (pc := 117) dX2_work_117 rfl ?_
        (rw [FX2_work_56]; (first | rw [if_pos c_59] | (dsimp only; rw [if_pos c_59])); (first | rw [ab_o_n c_93] | (dsimp only; rw [ab_o_n c_93])); (first | done | rfl | (dsimp only; done)))
      · replace hD := hD.2 w20 c_93
        refine ab_astore_n (pc := 96) dX2_work_96 rfl (Nat.le_of_ble_eq_true rfl) rfl ?_
        refine ab_aload_n (pc := 97) dX2_work_97 rfl rfl ?_
        refine ab_ifnull (pc := 98) dX2_work_98 ?_
        refine ab_aload_n (pc := 101) dX2_work_101 rfl rfl ?_
        refine ab_aload_n (pc := 102) dX2_work_102 rfl rfl ?_
        refine xo_gr (pc := 103) (a := (345 : Nat)) dX2_work_103 fl_X2_9 (by decide) rfl rfl ?_
        refine ab_iload_n (pc := 106) dX2_work_106 rfl rfl ?_
        obtain ⟨o21, hD⟩ := hD
        obtain ⟨o22, hD⟩ := hD
        have e23 := c_X6_setNumbers (tt := tt) _ _ _ _ o22
        refine xo_invv (N := mX6_setNumbers) (pc := 107) (d' := 0) (av := [_, _]) dX2_work_107 ml_X2_69 fv_X6_setNumbers o21 (Nat.le_of_ble_eq_true rfl) (by decide) e23 ?_
        refine ab_aload_n (pc := 110) dX2_work_110 rfl rfl ?_
        refine ab_aload_n (pc := 111) dX2_work_111 rfl rfl ?_
        refine ab_iconst (pc := 112) (v := nI 2) dX2_work_112 (by decide) ?_
        obtain ⟨o25, hD⟩ := hD
        have e26 := c_X1_post (tt := tt) _ _ _ o25
        refine xo_invi (N := mX1_post) (pc := 113) (d' := 1) (av := [_, _]) dX2_work_113 ml_X2_73 fv_X1_post (by decide) (Nat.le_of_ble_eq_true rfl) (by decide) e26 ?_
        refine ab_pop (pc := 116) dX2_work_116 rfl ?_
        refine xo_vr (pc := 117) dX2_work_117 rfl ?_
        (rw [FX2_work_56]; (first | rw [if_pos c_59] | (dsimp only; rw [if_pos c_59])); (first | rw [ab_o_s c_93] | (dsimp only; rw [ab_o_s c_93])); (first | done | rfl | (dsimp only; done)))
    · replace hD := hD.2 c_59
      refine ab_aload_n (pc := 62) dX2_work_62 rfl rfl ?_
      refine xo_gr (pc := 63) (a := (345 : Nat)) dX2_work_63 fl_X2_9 (by decide) rfl rfl ?_
      refine ab_iload_n (pc := 66) dX2_work_66 rfl rfl ?_
      refine ab_iload_n (pc := 67) dX2_work_67 rfl rfl ?_
      refine ab_iadd (pc := 68) dX2_work_68 ?_
      refine ab_aload_n (pc := 69) dX2_work_69 rfl rfl ?_
      refine xo_gr (pc := 70) (a := (346 : Nat)) dX2_work_70 fl_X2_15 (by decide) rfl rfl ?_
      refine ab_iload_n (pc := 73) dX2_work_73 rfl rfl ?_
      obtain ⟨o28, hD⟩ := hD
      refine xo_ild (pc := 74) dX2_work_74 (by decide) rfl o28 (by decide) ?_
      obtain ⟨o29, hD⟩ := hD
      refine ab_nat3 (ab_nat o29) ?_
      obtain ⟨o30, hD⟩ := hD
      refine xo_ist (pc := 75) dX2_work_75 (by decide) rfl o30 (by decide) ?_
      refine ab_iinc (pc := 76) dX2_work_76 rfl (ab_inc _) (Nat.le_of_ble_eq_true rfl) rfl ?_
      refine ab_goto (pc := 79) (tgt := 56) dX2_work_79 (by decide) ?_
      refine xo_eqv ?_ (ih _ _ _ hD)
      (rw [FX2_work_56]; (first | rw [if_neg c_59] | (dsimp only; rw [if_neg c_59])); (first | done | rfl | (dsimp only; done)))
def FX2_work  (x : xD) : xD :=
  if (x.1 344 3) = (x.1 344 5) then
    if (x.1 344 4) = (nI (21)) then
      FX2_work_56 9 ((x.1 344 5) * (nI (8))) 0 x
    else
      let x1 : xD := (ab_up x.1 344 4 (-1), x.2)
      let z4 := FX1_draft (nI (1)) (nI (22)) (nI (0)) (nI (0)) x1
      ab_o z4.1 (
        z4.2) (fun w5 =>
        let z9 := FX6_setNumbers w5 345 ((x.1 344 5) * (nI (8))) z4.2
        let z12 := FX1_post w5 (nI (2)) z9
        z12.2)
  else
    if (x.1 344 5) ≤ (x.1 344 3) then
      let x13 : xD := (ab_up x.1 344 3 ((x.1 344 3) + (-1)), x.2)
      x13
    else
      let x14 : xD := (ab_up x.1 344 3 ((x.1 344 3) + (nI (1))), x.2)
      x14
def DX2_work  (x : xD) : Prop :=
  (((x.1 344 3) = (x.1 344 5)) →
    (((x.1 344 4) = (nI (21))) →
      DX2_work_56 9 ((x.1 344 5) * (nI (8))) 0 x) ∧
    (¬ ((x.1 344 4) = (nI (21))) →
      let x1 : xD := (ab_up x.1 344 4 (-1), x.2)
      (DX1_draft (nI (1)) (nI (22)) (nI (0)) (nI (0)) x1) ∧
      let z4 := FX1_draft (nI (1)) (nI (22)) (nI (0)) (nI (0)) x1
      (z4.1 = none →
        True) ∧
      (∀ w5 : Nat, z4.1 = some w5 →
        (isX w5 6) ∧
        (DX6_setNumbers w5 345 ((x.1 344 5) * (nI (8))) z4.2) ∧
        let z9 := FX6_setNumbers w5 345 ((x.1 344 5) * (nI (8))) z4.2
        (DX1_post w5 (nI (2)) z9) ∧
        let z12 := FX1_post w5 (nI (2)) z9
        True))) ∧
  (¬ ((x.1 344 3) = (x.1 344 5)) →
    True)
set_option maxRecDepth 100000 in
set_option maxHeartbeats 4000000 in
theorem c_X2_work {tt : Prop}  (x : xD) (hD : DX2_work  x) : ab_Met mX2_work 2 0 0 tt [.ref (344 : Nat), .ref (1 : Nat)] (sX x) (xQv (FX2_work  x)) := by
  refine ab_Met.of rfl (Nat.le_of_ble_eq_true rfl) ?_
  show xV mX2_work 2 tt (xQv (FX2_work  x)) 0 [some (.ref (344 : Nat)), some (.ref (1 : Nat)), none, none] [] x
  refine ab_aload_n (pc := 0) dX2_work_0 rfl rfl ?_
  refine xo_gi (pc := 1) dX2_work_1 fl_X2_62 (by decide) rfl ?_
  refine ab_aload_n (pc := 4) dX2_work_4 rfl rfl ?_
  refine xo_gi (pc := 5) dX2_work_5 fl_X2_58 (by decide) rfl ?_
  refine ab_icmp_eq (pc := 8) (tgt := 37) dX2_work_8 (by decide) (fun c_8 => ?_) (fun c_8 => ?_)
  · replace hD := hD.1 c_8
    refine ab_aload_n (pc := 37) dX2_work_37 rfl rfl ?_
    refine xo_gi (pc := 38) dX2_work_38 fl_X2_58 (by decide) rfl ?_
    refine ab_bipush (pc := 41) (v := nI 8) dX2_work_41 (by decide) ?_
    refine ab_imul (pc := 43) dX2_work_43 ?_
    refine ab_istore_n (pc := 44) dX2_work_44 rfl (Nat.le_of_ble_eq_true rfl) rfl ?_
    refine ab_aload_n (pc := 45) dX2_work_45 rfl rfl ?_
    refine xo_gi (pc := 46) dX2_work_46 fl_X2_18 (by decide) rfl ?_
    refine ab_bipush (pc := 49) (v := nI 21) dX2_work_49 (by decide) ?_
    refine ab_icmp_ne (pc := 51) (tgt := 82) dX2_work_51 (by decide) (fun c_51 => ?_) (fun c_51 => ?_)
    · replace hD := hD.2 c_51
      refine ab_aload_n (pc := 82) dX2_work_82 rfl rfl ?_
      refine ab_iconst (pc := 83) (v := -1) dX2_work_83 (by decide) ?_
      refine xo_pi (pc := 84) dX2_work_84 fl_X2_18 (by decide) rfl (fun _ _ _ h => Or.inl (by cases h; rfl)) (ab_ok_i _) ?_
      refine ab_aload_n (pc := 87) dX2_work_87 rfl rfl ?_
      refine ab_iconst (pc := 88) (v := nI 1) dX2_work_88 (by decide) ?_
      refine ab_bipush (pc := 89) (v := nI 22) dX2_work_89 (by decide) ?_
      refine ab_iconst (pc := 91) (v := nI 0) dX2_work_91 (by decide) ?_
      refine ab_iconst (pc := 92) (v := nI 0) dX2_work_92 (by decide) ?_
      obtain ⟨o2, hD⟩ := hD
      have e3 := c_X1_draft (tt := tt) _ _ _ _ _ o2
      refine xo_invo (N := mX1_draft) (pc := 93) (d' := 1) (av := [_, _, _, _]) dX2_work_93 ml_X2_65 fv_X1_draft (by decide) (Nat.le_of_ble_eq_true rfl) (by decide) e3 (fun c_93 => ?_) (fun w5 c_93 => ?_)
      · refine ab_astore_nN (pc := 96) dX2_work_96 rfl (Nat.le_of_ble_eq_true rfl) rfl ?_
        refine ab_aload_nN (pc := 97) dX2_work_97 rfl rfl ?_
        refine ab_ifnullN (pc := 98) (tgt := 117) dX2_work_98 (by decide) ?_
        refine xo_vr (pc := 117) dX2_work_117 rfl ?_
        (rw [FX2_work]; (first | rw [if_pos c_8] | (dsimp only; rw [if_pos c_8])); (first | rw [if_neg c_51] | (dsimp only; rw [if_neg c_51])); (first | rw [ab_o_n c_93] | (dsimp only; rw [ab_o_n c_93])); (first | done | rfl | (dsimp only; done)))
      · replace hD := hD.2 w5 c_93
        refine ab_astore_n (pc := 96) dX2_work_96 rfl (Nat.le_of_ble_eq_true rfl) rfl ?_
        refine ab_aload_n (pc := 97) dX2_work_97 rfl rfl ?_
        refine ab_ifnull (pc := 98) dX2_work_98 ?_
        refine ab_aload_n (pc := 101) dX2_work_101 rfl rfl ?_
        refine ab_aload_n (pc := 102) dX2_work_102 rfl rfl ?_
        refine xo_gr (pc := 103) (a := (345 : Nat)) dX2_work_103 fl_X2_9 (by decide) rfl rfl ?_
        refine ab_iload_n (pc := 106) dX2_work_106 rfl rfl ?_
        obtain ⟨o6, hD⟩ := hD
        obtain ⟨o7, hD⟩ := hD
        have e8 := c_X6_setNumbers (tt := tt) _ _ _ _ o7
        refine xo_invv (N := mX6_setNumbers) (pc := 107) (d' := 0) (av := [_, _]) dX2_work_107 ml_X2_69 fv_X6_setNumbers o6 (Nat.le_of_ble_eq_true rfl) (by decide) e8 ?_
        refine ab_aload_n (pc := 110) dX2_work_110 rfl rfl ?_
        refine ab_aload_n (pc := 111) dX2_work_111 rfl rfl ?_
        refine ab_iconst (pc := 112) (v := nI 2) dX2_work_112 (by decide) ?_
        obtain ⟨o10, hD⟩ := hD
        have e11 := c_X1_post (tt := tt) _ _ _ o10
        refine xo_invi (N := mX1_post) (pc := 113) (d' := 1) (av := [_, _]) dX2_work_113 ml_X2_73 fv_X1_post (by decide) (Nat.le_of_ble_eq_true rfl) (by decide) e11 ?_
        refine ab_pop (pc := 116) dX2_work_116 rfl ?_
        refine xo_vr (pc := 117) dX2_work_117 rfl ?_
        (rw [FX2_work]; (first | rw [if_pos c_8] | (dsimp only; rw [if_pos c_8])); (first | rw [if_neg c_51] | (dsimp only; rw [if_neg c_51])); (first | rw [ab_o_s c_93] | (dsimp only; rw [ab_o_s c_93])); (first | done | rfl | (dsimp only; done)))
    · replace hD := hD.1 c_51
      refine ab_iconst (pc := 54) (v := nI 0) dX2_work_54 (by decide) ?_
      refine ab_istore_n (pc := 55) dX2_work_55 rfl (Nat.le_of_ble_eq_true rfl) rfl ?_
      refine xo_eqv ?_ (w_X2_work_56 9 _ _ _ hD)
      (rw [FX2_work]; (first | rw [if_pos c_8] | (dsimp only; rw [if_pos c_8])); (first | rw [if_pos c_51] | (dsimp only; rw [if_pos c_51])); (first | done | rfl | (dsimp only; done)))
  · refine ab_aload_n (pc := 11) dX2_work_11 rfl rfl ?_
    refine ab_dup (pc := 12) dX2_work_12 rfl ?_
    refine xo_gi (pc := 13) dX2_work_13 fl_X2_62 (by decide) rfl ?_
    refine ab_aload_n (pc := 16) dX2_work_16 rfl rfl ?_
    refine xo_gi (pc := 17) dX2_work_17 fl_X2_62 (by decide) rfl ?_
    refine ab_aload_n (pc := 20) dX2_work_20 rfl rfl ?_
    refine xo_gi (pc := 21) dX2_work_21 fl_X2_58 (by decide) rfl ?_
    refine ab_icmp_ge (pc := 24) (tgt := 31) dX2_work_24 (by decide) (fun c_24 => ?_) (fun c_24 => ?_)
    · refine ab_iconst (pc := 31) (v := -1) dX2_work_31 (by decide) ?_
      refine ab_iadd (pc := 32) dX2_work_32 ?_
      refine xo_pi (pc := 33) dX2_work_33 fl_X2_62 (by decide) rfl (fun _ _ _ h => Or.inl (by cases h; rfl)) (ab_ok_i _) ?_
      refine xo_vr (pc := 36) dX2_work_36 rfl ?_
      (rw [FX2_work]; (first | rw [if_neg c_8] | (dsimp only; rw [if_neg c_8])); (first | rw [if_pos c_24] | (dsimp only; rw [if_pos c_24])); (first | done | rfl | (dsimp only; done)))
    · refine ab_iconst (pc := 27) (v := nI 1) dX2_work_27 (by decide) ?_
      refine ab_goto (pc := 28) (tgt := 32) dX2_work_28 (by decide) ?_
      refine ab_iadd (pc := 32) dX2_work_32 ?_
      refine xo_pi (pc := 33) dX2_work_33 fl_X2_62 (by decide) rfl (fun _ _ _ h => Or.inl (by cases h; rfl)) (ab_ok_i _) ?_
      refine xo_vr (pc := 36) dX2_work_36 rfl ?_
      (rw [FX2_work]; (first | rw [if_neg c_8] | (dsimp only; rw [if_neg c_8])); (first | rw [if_neg c_24] | (dsimp only; rw [if_neg c_24])); (first | done | rfl | (dsimp only; done)))
def FX2_loseAll  (x : xD) : xD :=
  let x1 : xD := (ab_up x.1 344 2 (nI (0)), x.2)
  let x2 : xD := (ab_up x1.1 344 3 (nI (0)), x1.2)
  let x3 : xD := (ab_up x2.1 344 4 (-1), x2.2)
  x3
set_option maxRecDepth 100000 in
set_option maxHeartbeats 4000000 in
theorem c_X2_loseAll {tt : Prop}  (x : xD) (hD : True) : ab_Met mX2_loseAll 0 0 0 tt [.ref (344 : Nat)] (sX x) (xQv (FX2_loseAll  x)) := by
  refine ab_Met.of rfl (Nat.le_of_ble_eq_true rfl) ?_
  show xV mX2_loseAll 0 tt (xQv (FX2_loseAll  x)) 0 [some (.ref (344 : Nat))] [] x
  refine ab_aload_n (pc := 0) dX2_loseAll_0 rfl rfl ?_
  refine ab_iconst (pc := 1) (v := nI 0) dX2_loseAll_1 (by decide) ?_
  refine xo_pi (pc := 2) dX2_loseAll_2 fl_X2_77 (by decide) rfl (fun _ _ _ h => Or.inl (by cases h; rfl)) (ab_ok_b (Or.inl rfl)) ?_
  refine ab_aload_n (pc := 5) dX2_loseAll_5 rfl rfl ?_
  refine ab_iconst (pc := 6) (v := nI 0) dX2_loseAll_6 (by decide) ?_
  refine xo_pi (pc := 7) dX2_loseAll_7 fl_X2_62 (by decide) rfl (fun _ _ _ h => Or.inl (by cases h; rfl)) (ab_ok_i _) ?_
  refine ab_aload_n (pc := 10) dX2_loseAll_10 rfl rfl ?_
  refine ab_iconst (pc := 11) (v := -1) dX2_loseAll_11 (by decide) ?_
  refine xo_pi (pc := 12) dX2_loseAll_12 fl_X2_18 (by decide) rfl (fun _ _ _ h => Or.inl (by cases h; rfl)) (ab_ok_i _) ?_
  refine xo_vr (pc := 15) dX2_loseAll_15 rfl ?_
  first | rfl | (rw [FX2_loseAll]; done) | (rw [FX2_loseAll]; rfl)
def FX2_takeTurn  (x : xD) : xD :=
  let z5 := FX0_take 35 (FX0_firstOf 35 (nI (40)) x) x
  ab_o z5.1 (
    if (z5.2.1 344 4) = (-1) then
      let z9 := FX0_take 35 (nI (0)) z5.2
      ab_o z9.1 (
        let z11 := FX2_begin_n  z9.2
        z11) (fun w10 =>
        let z14 := FX2_begin w10 z9.2
        z14)
    else
      let z17 := FX2_work  z5.2
      z17) (fun w6 =>
    let z20 := FX1_send (nI (1)) (nI (0)) (nI (41)) (nI (0)) (nI (0)) z5.2
    z20)
def DX2_takeTurn  (x : xD) : Prop :=
  (DX0_firstOf 35 (nI (40)) x) ∧
  (DX0_take 35 (FX0_firstOf 35 (nI (40)) x) x) ∧
  let z5 := FX0_take 35 (FX0_firstOf 35 (nI (40)) x) x
  (z5.1 = none →
    (((z5.2.1 344 4) = (-1)) →
      (DX0_take 35 (nI (0)) z5.2) ∧
      let z9 := FX0_take 35 (nI (0)) z5.2
      (z9.1 = none →
        True) ∧
      (∀ w10 : Nat, z9.1 = some w10 →
        (DX2_begin w10 z9.2) ∧
        let z14 := FX2_begin w10 z9.2
        True)) ∧
    (¬ ((z5.2.1 344 4) = (-1)) →
      (DX2_work  z5.2) ∧
      let z17 := FX2_work  z5.2
      True)) ∧
  (∀ w6 : Nat, z5.1 = some w6 →
    (DX1_send (nI (1)) (nI (0)) (nI (41)) (nI (0)) (nI (0)) z5.2) ∧
    let z20 := FX1_send (nI (1)) (nI (0)) (nI (41)) (nI (0)) (nI (0)) z5.2
    True)
set_option maxRecDepth 100000 in
set_option maxHeartbeats 4000000 in
theorem c_X2_takeTurn {tt : Prop}  (x : xD) (hD : DX2_takeTurn  x) : ab_Met mX2_takeTurn 3 0 0 tt [.ref (344 : Nat), .ref (1 : Nat)] (sX x) (xQv (FX2_takeTurn  x)) := by
  refine ab_Met.of rfl (Nat.le_of_ble_eq_true rfl) ?_
  show xV mX2_takeTurn 3 tt (xQv (FX2_takeTurn  x)) 0 [some (.ref (344 : Nat)), some (.ref (1 : Nat)), none] [] x
  refine ab_aload_n (pc := 0) dX2_takeTurn_0 rfl rfl ?_
  refine xo_gr (pc := 1) (a := (2 : Nat)) dX2_takeTurn_1 fl_X2_22 (by decide) rfl rfl ?_
  refine ab_iconst (pc := 4) (v := nI 1) dX2_takeTurn_4 (by decide) ?_
  refine xo_ald (pc := 5) dX2_takeTurn_5 (by decide) (Or.inr rfl) rfl (by decide) (crX_box (by decide)) ?_
  refine ab_top (w := .ref (35 : Nat)) rfl ?_
  refine ab_astore_n (pc := 6) dX2_takeTurn_6 rfl (Nat.le_of_ble_eq_true rfl) rfl ?_
  refine ab_aload_n (pc := 7) dX2_takeTurn_7 rfl rfl ?_
  refine ab_aload_n (pc := 8) dX2_takeTurn_8 rfl rfl ?_
  refine ab_bipush (pc := 9) (v := nI 40) dX2_takeTurn_9 (by decide) ?_
  obtain ⟨o1, hD⟩ := hD
  have e2 := c_X0_firstOf (tt := tt) _ _ _ o1
  refine xo_invr (N := mX0_firstOf) (pc := 11) (d' := 0) (av := [_]) dX2_takeTurn_11 ml_X2_28 fv_X0_firstOf (by decide) (Nat.le_of_ble_eq_true rfl) (by decide) e2 ?_
  obtain ⟨o3, hD⟩ := hD
  have e4 := c_X0_take (tt := tt) _ _ _ o3
  refine xo_invo (N := mX0_take) (pc := 14) (d' := 0) (av := [_]) dX2_takeTurn_14 ml_X2_34 fv_X0_take (by decide) (Nat.le_of_ble_eq_true rfl) (by decide) e4 (fun c_14 => ?_) (fun w6 c_14 => ?_)
  · replace hD := hD.1 c_14
    refine ab_ifnullN (pc := 17) (tgt := 33) dX2_takeTurn_17 (by decide) ?_
    refine ab_aload_n (pc := 33) dX2_takeTurn_33 rfl rfl ?_
    refine xo_gi (pc := 34) dX2_takeTurn_34 fl_X2_18 (by decide) rfl ?_
    refine ab_iconst (pc := 37) (v := -1) dX2_takeTurn_37 (by decide) ?_
    refine ab_icmp_eq (pc := 38) (tgt := 49) dX2_takeTurn_38 (by decide) (fun c_38 => ?_) (fun c_38 => ?_)
    · replace hD := hD.1 c_38
      refine ab_aload_n (pc := 49) dX2_takeTurn_49 rfl rfl ?_
      refine ab_aload_n (pc := 50) dX2_takeTurn_50 rfl rfl ?_
      refine ab_iconst (pc := 51) (v := nI 0) dX2_takeTurn_51 (by decide) ?_
      obtain ⟨o7, hD⟩ := hD
      have e8 := c_X0_take (tt := tt) _ _ _ o7
      refine xo_invo (N := mX0_take) (pc := 52) (d' := 0) (av := [_]) dX2_takeTurn_52 ml_X2_34 fv_X0_take (by decide) (Nat.le_of_ble_eq_true rfl) (by decide) e8 (fun c_52 => ?_) (fun w10 c_52 => ?_)
      · refine xo_invv (N := mX2_begin) (pc := 55) (d' := 0) (av := [_]) dX2_takeTurn_55 ml_X2_46 fv_X2_begin (by decide) (Nat.le_of_ble_eq_true rfl) (by decide) (c_X2_begin_n  _ trivial) ?_
        refine xo_vr (pc := 58) dX2_takeTurn_58 rfl ?_
        (rw [FX2_takeTurn]; (first | rw [ab_o_n c_14] | (dsimp only; rw [ab_o_n c_14])); (first | rw [if_pos c_38] | (dsimp only; rw [if_pos c_38])); (first | rw [ab_o_n c_52] | (dsimp only; rw [ab_o_n c_52])); (first | done | rfl | (dsimp only; done)))
      · replace hD := hD.2 w10 c_52
        obtain ⟨o12, hD⟩ := hD
        have e13 := c_X2_begin (tt := tt) _ _ o12
        refine xo_invv (N := mX2_begin) (pc := 55) (d' := 0) (av := [_]) dX2_takeTurn_55 ml_X2_46 fv_X2_begin (by decide) (Nat.le_of_ble_eq_true rfl) (by decide) e13 ?_
        refine xo_vr (pc := 58) dX2_takeTurn_58 rfl ?_
        (rw [FX2_takeTurn]; (first | rw [ab_o_n c_14] | (dsimp only; rw [ab_o_n c_14])); (first | rw [if_pos c_38] | (dsimp only; rw [if_pos c_38])); (first | rw [ab_o_s c_52] | (dsimp only; rw [ab_o_s c_52])); (first | done | rfl | (dsimp only; done)))
    · replace hD := hD.2 c_38
      refine ab_aload_n (pc := 41) dX2_takeTurn_41 rfl rfl ?_
      refine ab_aload_n (pc := 42) dX2_takeTurn_42 rfl rfl ?_
      obtain ⟨o15, hD⟩ := hD
      have e16 := c_X2_work (tt := tt)  _ o15
      refine xo_invv (N := mX2_work) (pc := 43) (d' := 2) (av := [_]) dX2_takeTurn_43 ml_X2_42 fv_X2_work (by decide) (Nat.le_of_ble_eq_true rfl) (by decide) e16 ?_
      refine ab_goto (pc := 46) (tgt := 58) dX2_takeTurn_46 (by decide) ?_
      refine xo_vr (pc := 58) dX2_takeTurn_58 rfl ?_
      (rw [FX2_takeTurn]; (first | rw [ab_o_n c_14] | (dsimp only; rw [ab_o_n c_14])); (first | rw [if_neg c_38] | (dsimp only; rw [if_neg c_38])); (first | done | rfl | (dsimp only; done)))
  · replace hD := hD.2 w6 c_14
    refine ab_ifnull (pc := 17) dX2_takeTurn_17 ?_
    refine ab_aload_n (pc := 20) dX2_takeTurn_20 rfl rfl ?_
    refine ab_iconst (pc := 21) (v := nI 1) dX2_takeTurn_21 (by decide) ?_
    refine ab_iconst (pc := 22) (v := nI 0) dX2_takeTurn_22 (by decide) ?_
    refine ab_bipush (pc := 23) (v := nI 41) dX2_takeTurn_23 (by decide) ?_
    refine ab_iconst (pc := 25) (v := nI 0) dX2_takeTurn_25 (by decide) ?_
    refine ab_iconst (pc := 26) (v := nI 0) dX2_takeTurn_26 (by decide) ?_
    obtain ⟨o18, hD⟩ := hD
    have e19 := c_X1_send (tt := tt) _ _ _ _ _ _ o18
    refine xo_invv (N := mX1_send) (pc := 27) (d' := 2) (av := [_, _, _, _, _]) dX2_takeTurn_27 ml_X2_38 fv_X1_send (by decide) (Nat.le_of_ble_eq_true rfl) (by decide) e19 ?_
    refine ab_goto (pc := 30) (tgt := 58) dX2_takeTurn_30 (by decide) ?_
    refine xo_vr (pc := 58) dX2_takeTurn_58 rfl ?_
    (rw [FX2_takeTurn]; (first | rw [ab_o_s c_14] | (dsimp only; rw [ab_o_s c_14])); (first | done | rfl | (dsimp only; done)))
