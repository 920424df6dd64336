def FX3_takeInHand (u : Int32) (e : Int32) (r : Int32) (v : Int32) (x : xD) : xD :=
  let x1 : xD := (ab_up x.1 347 6 (u), x.2)
  let x2 : xD := (ab_up x1.1 347 7 (e), x1.2)
  let x4 : xD := (ab_up x2.1 347 5 (r), x2.2)
  let x5 : xD := (ab_up x4.1 347 8 (v), x4.2)
  x5
def DX3_takeInHand (u : Int32) (e : Int32) (r : Int32) (v : Int32) (x : xD) : Prop :=
  let x1 : xD := (ab_up x.1 347 6 (u), x.2)
  let x2 : xD := (ab_up x1.1 347 7 (e), x1.2)
  ((r) = 0 ∨ (r) = 1) ∧
  let x4 : xD := (ab_up x2.1 347 5 (r), x2.2)
  let x5 : xD := (ab_up x4.1 347 8 (v), x4.2)
  True
set_option maxRecDepth 100000 in
set_option maxHeartbeats 4000000 in
theorem c_X3_takeInHand {tt : Prop} (u : Int32) (e : Int32) (r : Int32) (v : Int32) (x : xD) (hD : DX3_takeInHand u e r v x) : ab_Met mX3_takeInHand 0 0 0 tt [.ref (347 : Nat), .int (u), .int (e), .int (r), .int (v)] (sX x) (xQv (FX3_takeInHand u e r v x)) := by
  refine ab_Met.of rfl (Nat.le_of_ble_eq_true rfl) ?_
  show xV mX3_takeInHand 0 tt (xQv (FX3_takeInHand u e r v x)) 0 [some (.ref (347 : Nat)), some (.int (u)), some (.int (e)), some (.int (r)), some (.int (v))] [] x
  refine ab_aload_n (pc := 0) dX3_takeInHand_0 rfl rfl ?_
  refine ab_iload_n (pc := 1) dX3_takeInHand_1 rfl rfl ?_
  refine xo_pi (pc := 2) dX3_takeInHand_2 fl_X3_170 (by decide) rfl (fun _ _ _ h => Or.inl (by cases h; rfl)) (ab_ok_i _) ?_
  refine ab_aload_n (pc := 5) dX3_takeInHand_5 rfl rfl ?_
  refine ab_iload_n (pc := 6) dX3_takeInHand_6 rfl rfl ?_
  refine xo_pi (pc := 7) dX3_takeInHand_7 fl_X3_173 (by decide) rfl (fun _ _ _ h => Or.inl (by cases h; rfl)) (ab_ok_i _) ?_
  refine ab_aload_n (pc := 10) dX3_takeInHand_10 rfl rfl ?_
  refine ab_iload_n (pc := 11) dX3_takeInHand_11 rfl rfl ?_
  obtain ⟨o3, hD⟩ := hD
  refine xo_pi (pc := 12) dX3_takeInHand_12 fl_X3_176 (by decide) rfl (fun _ _ _ h => Or.inl (by cases h; rfl)) (ab_ok_b o3) ?_
  refine ab_aload_n (pc := 15) dX3_takeInHand_15 rfl rfl ?_
  refine ab_iload (pc := 16) dX3_takeInHand_16 rfl ?_
  refine xo_pi (pc := 18) dX3_takeInHand_18 fl_X3_179 (by decide) rfl (fun _ _ _ h => Or.inl (by cases h; rfl)) (ab_ok_i _) ?_
  refine xo_vr (pc := 21) dX3_takeInHand_21 rfl ?_
  first | rfl | (rw [FX3_takeInHand]; done) | (rw [FX3_takeInHand]; rfl)
def FX3_ask (k : Int32) (x : xD) : xD :=
  let x1 : xD := (ab_up x.1 347 9 (k), x.2)
  let x2 : xD := (ab_up x1.1 347 2 (nI (1)), x1.2)
  let z5 := FX1_draft (nI (2)) (k) (x2.1 347 10) (nI (0)) x2
  ab_o z5.1 (
    z5.2) (fun w6 =>
    let x8 : xD := (ab_up z5.2.1 w6 6 (z5.2.1 347 4), z5.2.2)
    if (k) = (nI (21)) then
      let z14 := FX6_setNumbers w6 356 (nI (0)) x8
      let z17 := FX1_post w6 (nI (1)) z14
      z17.2
    else
      let z11 := FX1_post w6 (nI (1)) x8
      z11.2)
def DX3_ask (k : Int32) (x : xD) : Prop :=
  let x1 : xD := (ab_up x.1 347 9 (k), x.2)
  let x2 : xD := (ab_up x1.1 347 2 (nI (1)), x1.2)
  (DX1_draft (nI (2)) (k) (x2.1 347 10) (nI (0)) x2) ∧
  let z5 := FX1_draft (nI (2)) (k) (x2.1 347 10) (nI (0)) x2
  (z5.1 = none →
    True) ∧
  (∀ w6 : Nat, z5.1 = some w6 →
    (isX w6 6) ∧
    let x8 : xD := (ab_up z5.2.1 w6 6 (z5.2.1 347 4), z5.2.2)
    (((k) = (nI (21))) →
      (DX6_setNumbers w6 356 (nI (0)) x8) ∧
      let z14 := FX6_setNumbers w6 356 (nI (0)) x8
      (DX1_post w6 (nI (1)) z14) ∧
      let z17 := FX1_post w6 (nI (1)) z14
      True) ∧
    (¬ ((k) = (nI (21))) →
      (DX1_post w6 (nI (1)) x8) ∧
      let z11 := FX1_post w6 (nI (1)) x8
      True))
set_option maxRecDepth 100000 in
set_option maxHeartbeats 4000000 in
theorem c_X3_ask {tt : Prop} (k : Int32) (x : xD) (hD : DX3_ask k x) : ab_Met mX3_ask 2 0 0 tt [.ref (347 : Nat), .ref (1 : Nat), .int (k)] (sX x) (xQv (FX3_ask k x)) := by
  refine ab_Met.of rfl (Nat.le_of_ble_eq_true rfl) ?_
  show xV mX3_ask 2 tt (xQv (FX3_ask k x)) 0 [some (.ref (347 : Nat)), some (.ref (1 : Nat)), some (.int (k)), none] [] x
  refine ab_aload_n (pc := 0) dX3_ask_0 rfl rfl ?_
  refine ab_iload_n (pc := 1) dX3_ask_1 rfl rfl ?_
  refine xo_pi (pc := 2) dX3_ask_2 fl_X3_182 (by decide) rfl (fun _ _ _ h => Or.inl (by cases h; rfl)) (ab_ok_i _) ?_
  refine ab_aload_n (pc := 5) dX3_ask_5 rfl rfl ?_
  refine ab_iconst (pc := 6) (v := nI 1) dX3_ask_6 (by decide) ?_
  refine xo_pi (pc := 7) dX3_ask_7 fl_X3_39 (by decide) rfl (fun _ _ _ h => Or.inl (by cases h; rfl)) (ab_ok_b (Or.inr rfl)) ?_
  refine ab_aload_n (pc := 10) dX3_ask_10 rfl rfl ?_
  refine ab_iconst (pc := 11) (v := nI 2) dX3_ask_11 (by decide) ?_
  refine ab_iload_n (pc := 12) dX3_ask_12 rfl rfl ?_
  refine ab_aload_n (pc := 13) dX3_ask_13 rfl rfl ?_
  refine xo_gi (pc := 14) dX3_ask_14 fl_X3_151 (by decide) rfl ?_
  refine ab_iconst (pc := 17) (v := nI 0) dX3_ask_17 (by decide) ?_
  obtain ⟨o3, hD⟩ := hD
  have e4 := c_X1_draft (tt := tt) _ _ _ _ _ o3
  refine xo_invo (N := mX1_draft) (pc := 18) (d' := 1) (av := [_, _, _, _]) dX3_ask_18 ml_X3_185 fv_X1_draft (by decide) (Nat.le_of_ble_eq_true rfl) (by decide) e4 (fun c_18 => ?_) (fun w6 c_18 => ?_)
  · refine ab_astore_nN (pc := 21) dX3_ask_21 rfl (Nat.le_of_ble_eq_true rfl) rfl ?_
    refine ab_aload_nN (pc := 22) dX3_ask_22 rfl rfl ?_
    refine ab_ifnonnullN (pc := 23) dX3_ask_23 ?_
    refine xo_vr (pc := 26) dX3_ask_26 rfl ?_
    (rw [FX3_ask]; (first | rw [ab_o_n c_18] | (dsimp only; rw [ab_o_n c_18])); (first | done | rfl | (dsimp only; done)))
  · replace hD := hD.2 w6 c_18
    refine ab_astore_n (pc := 21) dX3_ask_21 rfl (Nat.le_of_ble_eq_true rfl) rfl ?_
    refine ab_aload_n (pc := 22) dX3_ask_22 rfl rfl ?_
    refine ab_ifnonnull (pc := 23) (tgt := 27) dX3_ask_23 (by decide) ?_
    refine ab_aload_n (pc := 27) dX3_ask_27 rfl rfl ?_
    refine ab_aload_n (pc := 28) dX3_ask_28 rfl rfl ?_
    refine xo_gi (pc := 29) dX3_ask_29 fl_X3_29 (by decide) rfl ?_
    obtain ⟨o7, hD⟩ := hD
    refine xo_pi (pc := 32) dX3_ask_32 fl_X3_189 o7 rfl (fun _ _ _ h => Or.inl (by cases h; rfl)) (ab_ok_i _) ?_
    refine ab_iload_n (pc := 35) dX3_ask_35 rfl rfl ?_
    refine ab_bipush (pc := 36) (v := nI 21) dX3_ask_36 (by decide) ?_
    refine ab_icmp_ne (pc := 38) (tgt := 50) dX3_ask_38 (by decide) (fun c_38 => ?_) (fun c_38 => ?_)
    · replace hD := hD.2 c_38
      refine ab_aload_n (pc := 50) dX3_ask_50 rfl rfl ?_
      refine ab_aload_n (pc := 51) dX3_ask_51 rfl rfl ?_
      refine ab_iconst (pc := 52) (v := nI 1) dX3_ask_52 (by decide) ?_
      obtain ⟨o9, hD⟩ := hD
      have e10 := c_X1_post (tt := tt) _ _ _ o9
      refine xo_invi (N := mX1_post) (pc := 53) (d' := 1) (av := [_, _]) dX3_ask_53 ml_X3_196 fv_X1_post (by decide) (Nat.le_of_ble_eq_true rfl) (by decide) e10 ?_
      refine ab_pop (pc := 56) dX3_ask_56 rfl ?_
      refine xo_vr (pc := 57) dX3_ask_57 rfl ?_
      (rw [FX3_ask]; (first | rw [ab_o_s c_18] | (dsimp only; rw [ab_o_s c_18])); (first | rw [if_neg c_38] | (dsimp only; rw [if_neg c_38])); (first | done | rfl | (dsimp only; done)))
    · replace hD := hD.1 c_38
      refine ab_aload_n (pc := 41) dX3_ask_41 rfl rfl ?_
      refine ab_aload_n (pc := 42) dX3_ask_42 rfl rfl ?_
      refine xo_gr (pc := 43) (a := (356 : Nat)) dX3_ask_43 fl_X3_25 (by decide) rfl rfl ?_
      refine ab_iconst (pc := 46) (v := nI 0) dX3_ask_46 (by decide) ?_
      obtain ⟨o12, hD⟩ := hD
      have e13 := c_X6_setNumbers (tt := tt) _ _ _ _ o12
      refine xo_invv (N := mX6_setNumbers) (pc := 47) (d' := 0) (av := [_, _]) dX3_ask_47 ml_X3_192 fv_X6_setNumbers o7 (Nat.le_of_ble_eq_true rfl) (by decide) e13 ?_
      refine ab_aload_n (pc := 50) dX3_ask_50 rfl rfl ?_
      refine ab_aload_n (pc := 51) dX3_ask_51 rfl rfl ?_
      refine ab_iconst (pc := 52) (v := nI 1) dX3_ask_52 (by decide) ?_
      obtain ⟨o15, hD⟩ := hD
      have e16 := c_X1_post (tt := tt) _ _ _ o15
      refine xo_invi (N := mX1_post) (pc := 53) (d' := 1) (av := [_, _]) dX3_ask_53 ml_X3_196 fv_X1_post (by decide) (Nat.le_of_ble_eq_true rfl) (by decide) e16 ?_
      refine ab_pop (pc := 56) dX3_ask_56 rfl ?_
      refine xo_vr (pc := 57) dX3_ask_57 rfl ?_
      (rw [FX3_ask]; (first | rw [ab_o_s c_18] | (dsimp only; rw [ab_o_s c_18])); (first | rw [if_pos c_38] | (dsimp only; rw [if_pos c_38])); (first | done | rfl | (dsimp only; done)))
def FX3_hearOfLife (l : Int32) (x : xD) : xD :=
  let x1 : xD := (ab_up x.1 347 4 (l), x.2)
  if (x1.1 347 2) = 0 then
    x1
  else
    let z4 := FX3_ask (x1.1 347 9) x1
    z4
def DX3_hearOfLife (l : Int32) (x : xD) : Prop :=
  let x1 : xD := (ab_up x.1 347 4 (l), x.2)
  (((x1.1 347 2) = 0) →
    True) ∧
  (¬ ((x1.1 347 2) = 0) →
    (DX3_ask (x1.1 347 9) x1) ∧
    let z4 := FX3_ask (x1.1 347 9) x1
    True)
set_option maxRecDepth 100000 in
set_option maxHeartbeats 4000000 in
theorem c_X3_hearOfLife {tt : Prop} (l : Int32) (x : xD) (hD : DX3_hearOfLife l x) : ab_Met mX3_hearOfLife 3 0 0 tt [.ref (347 : Nat), .ref (1 : Nat), .int (l)] (sX x) (xQv (FX3_hearOfLife l x)) := by
  refine ab_Met.of rfl (Nat.le_of_ble_eq_true rfl) ?_
  show xV mX3_hearOfLife 3 tt (xQv (FX3_hearOfLife l x)) 0 [some (.ref (347 : Nat)), some (.ref (1 : Nat)), some (.int (l))] [] x
  refine ab_aload_n (pc := 0) dX3_hearOfLife_0 rfl rfl ?_
  refine ab_iload_n (pc := 1) dX3_hearOfLife_1 rfl rfl ?_
  refine xo_pi (pc := 2) dX3_hearOfLife_2 fl_X3_29 (by decide) rfl (fun _ _ _ h => Or.inl (by cases h; rfl)) (ab_ok_i _) ?_
  refine ab_aload_n (pc := 5) dX3_hearOfLife_5 rfl rfl ?_
  refine xo_gi (pc := 6) dX3_hearOfLife_6 fl_X3_39 (by decide) rfl ?_
  refine ab_if_eq (pc := 9) (tgt := 21) dX3_hearOfLife_9 (by decide) (fun c_9 => ?_) (fun c_9 => ?_)
  · refine xo_vr (pc := 21) dX3_hearOfLife_21 rfl ?_
    (rw [FX3_hearOfLife]; (first | rw [if_pos c_9] | (dsimp only; rw [if_pos c_9])); (first | done | rfl | (dsimp only; done)))
  · replace hD := hD.2 c_9
    refine ab_aload_n (pc := 12) dX3_hearOfLife_12 rfl rfl ?_
    refine ab_aload_n (pc := 13) dX3_hearOfLife_13 rfl rfl ?_
    refine ab_aload_n (pc := 14) dX3_hearOfLife_14 rfl rfl ?_
    refine xo_gi (pc := 15) dX3_hearOfLife_15 fl_X3_182 (by decide) rfl ?_
    obtain ⟨o2, hD⟩ := hD
    have e3 := c_X3_ask (tt := tt) _ _ o2
    refine xo_invv (N := mX3_ask) (pc := 18) (d' := 2) (av := [_, _]) dX3_hearOfLife_18 ml_X3_154 fv_X3_ask (by decide) (Nat.le_of_ble_eq_true rfl) (by decide) e3 ?_
    refine xo_vr (pc := 21) dX3_hearOfLife_21 rfl ?_
    (rw [FX3_hearOfLife]; (first | rw [if_neg c_9] | (dsimp only; rw [if_neg c_9])); (first | done | rfl | (dsimp only; done)))
def FX3_whyNotWrite (f : Int32) (p : Int32) (x : xD) : Int32 :=
  if (f) = (-1) then
    (-8)
  else
    if (p) < (nI (32)) then
      if (FX4_needsBlock (f) (p) x) = 0 then
        (nI (0))
      else
        if (x.1 348 5) = 0 then
          (-6)
        else
          (nI (0))
    else
      (-4)
def DX3_whyNotWrite (f : Int32) (p : Int32) (x : xD) : Prop :=
  (((f) = (-1)) →
    True) ∧
  (¬ ((f) = (-1)) →
    (((p) < (nI (32))) →
      (DX4_needsBlock (f) (p) x) ∧
      True) ∧
    (¬ ((p) < (nI (32))) →
      True))
set_option maxRecDepth 100000 in
set_option maxHeartbeats 4000000 in
theorem c_X3_whyNotWrite {tt : Prop} (f : Int32) (p : Int32) (x : xD) (hD : DX3_whyNotWrite f p x) : ab_Met mX3_whyNotWrite 2 0 0 tt [.ref (347 : Nat), .int (f), .int (p)] (sX x) (xQi (FX3_whyNotWrite f p x, x)) := by
  refine ab_Met.of rfl (Nat.le_of_ble_eq_true rfl) ?_
  show xV mX3_whyNotWrite 2 tt (xQi (FX3_whyNotWrite f p x, x)) 0 [some (.ref (347 : Nat)), some (.int (f)), some (.int (p))] [] x
  refine ab_iload_n (pc := 0) dX3_whyNotWrite_0 rfl rfl ?_
  refine ab_iconst (pc := 1) (v := -1) dX3_whyNotWrite_1 (by decide) ?_
  refine ab_icmp_ne (pc := 2) (tgt := 8) dX3_whyNotWrite_2 (by decide) (fun c_2 => ?_) (fun c_2 => ?_)
  · replace hD := hD.2 c_2
    refine ab_iload_n (pc := 8) dX3_whyNotWrite_8 rfl rfl ?_
    refine ab_bipush (pc := 9) (v := nI 32) dX3_whyNotWrite_9 (by decide) ?_
    refine ab_icmp_lt (pc := 11) (tgt := 17) dX3_whyNotWrite_11 (by decide) (fun c_11 => ?_) (fun c_11 => ?_)
    · replace hD := hD.1 c_11
      refine ab_aload_n (pc := 17) dX3_whyNotWrite_17 rfl rfl ?_
      refine xo_gr (pc := 18) (a := (348 : Nat)) dX3_whyNotWrite_18 fl_X3_12 (by decide) rfl rfl ?_
      refine ab_iload_n (pc := 21) dX3_whyNotWrite_21 rfl rfl ?_
      refine ab_iload_n (pc := 22) dX3_whyNotWrite_22 rfl rfl ?_
      obtain ⟨o1, hD⟩ := hD
      have e2 := c_X4_needsBlock (tt := tt) _ _ _ o1
      refine xo_invr (N := mX4_needsBlock) (pc := 23) (d' := 1) (av := [_, _]) dX3_whyNotWrite_23 ml_X3_160 fv_X4_needsBlock (by decide) (Nat.le_of_ble_eq_true rfl) (by decide) e2 ?_
      refine ab_if_eq (pc := 26) (tgt := 44) dX3_whyNotWrite_26 (by decide) (fun c_26 => ?_) (fun c_26 => ?_)
      · refine ab_iconst (pc := 44) (v := nI 0) dX3_whyNotWrite_44 (by decide) ?_
        refine xo_ir (pc := 45) dX3_whyNotWrite_45 rfl rfl ?_
        (rw [FX3_whyNotWrite]; (first | rw [if_neg c_2] | (dsimp only; rw [if_neg c_2])); (first | rw [if_pos c_11] | (dsimp only; rw [if_pos c_11])); (first | rw [if_pos c_26] | (dsimp only; rw [if_pos c_26])); (first | done | rfl | (dsimp only; done)))
      · refine ab_aload_n (pc := 29) dX3_whyNotWrite_29 rfl rfl ?_
        refine xo_gr (pc := 30) (a := (348 : Nat)) dX3_whyNotWrite_30 fl_X3_12 (by decide) rfl rfl ?_
        refine xo_gi (pc := 33) dX3_whyNotWrite_33 fl_X3_167 (by decide) rfl ?_
        refine ab_if_ne (pc := 36) (tgt := 44) dX3_whyNotWrite_36 (by decide) (fun c_36 => ?_) (fun c_36 => ?_)
        · refine ab_iconst (pc := 44) (v := nI 0) dX3_whyNotWrite_44 (by decide) ?_
          refine xo_ir (pc := 45) dX3_whyNotWrite_45 rfl rfl ?_
          (rw [FX3_whyNotWrite]; (first | rw [if_neg c_2] | (dsimp only; rw [if_neg c_2])); (first | rw [if_pos c_11] | (dsimp only; rw [if_pos c_11])); (first | rw [if_neg c_26] | (dsimp only; rw [if_neg c_26])); (first | rw [if_neg c_36] | (dsimp only; rw [if_neg c_36])); (first | done | rfl | (dsimp only; done)))
        · refine ab_bipush (pc := 39) (v := -6) dX3_whyNotWrite_39 (by decide) ?_
          refine ab_goto (pc := 41) (tgt := 45) dX3_whyNotWrite_41 (by decide) ?_
          refine xo_ir (pc := 45) dX3_whyNotWrite_45 rfl rfl ?_
          (rw [FX3_whyNotWrite]; (first | rw [if_neg c_2] | (dsimp only; rw [if_neg c_2])); (first | rw [if_pos c_11] | (dsimp only; rw [if_pos c_11])); (first | rw [if_neg c_26] | (dsimp only; rw [if_neg c_26])); (first | rw [if_pos c_36] | (dsimp only; rw [if_pos c_36])); (first | done | rfl | (dsimp only; done)))
    · refine ab_bipush (pc := 14) (v := -4) dX3_whyNotWrite_14 (by decide) ?_
      refine xo_ir (pc := 16) dX3_whyNotWrite_16 rfl rfl ?_
      (rw [FX3_whyNotWrite]; (first | rw [if_neg c_2] | (dsimp only; rw [if_neg c_2])); (first | rw [if_neg c_11] | (dsimp only; rw [if_neg c_11])); (first | done | rfl | (dsimp only; done)))
  · refine ab_bipush (pc := 5) (v := -8) dX3_whyNotWrite_5 (by decide) ?_
    refine xo_ir (pc := 7) dX3_whyNotWrite_7 rfl rfl ?_
    (rw [FX3_whyNotWrite]; (first | rw [if_pos c_2] | (dsimp only; rw [if_pos c_2])); (first | done | rfl | (dsimp only; done)))
def FX3_read (u : Int32) (e : Int32) (x : xD) : xD :=
  if (FX7_fileAt (u) (e) x) = (-1) then
    if (FX7_fileAt (u) (e) x) = (-1) then
      let z10 := FX1_send (nI (2)) (u) (nI (50)) (-8) (nI (0)) x
      z10
    else
      let z7 := FX1_send (nI (2)) (u) (nI (50)) (-5) (nI (0)) x
      z7
  else
    if (FX7_placeAt (u) (e) x) < (FX4_sizeOf (FX7_fileAt (u) (e) x) x) then
      let z15 := FX3_takeInHand (u) (e) (nI (1)) (nI (0)) x
      let x18 : xD := (ab_up z15.1 347 10 (FX4_blockOf (FX7_fileAt (u) (e) x) (((FX7_placeAt (u) (e) x) / (nI (8))).toInt64) z15), z15.2)
      let z21 := FX3_ask (nI (20)) x18
      z21
    else
      if (FX7_fileAt (u) (e) x) = (-1) then
        let z27 := FX1_send (nI (2)) (u) (nI (50)) (-8) (nI (0)) x
        z27
      else
        let z24 := FX1_send (nI (2)) (u) (nI (50)) (-5) (nI (0)) x
        z24
def DX3_read (u : Int32) (e : Int32) (x : xD) : Prop :=
  (DX7_fileAt (u) (e) x) ∧
  (DX7_placeAt (u) (e) x) ∧
  (((FX7_fileAt (u) (e) x) = (-1)) →
    (((FX7_fileAt (u) (e) x) = (-1)) →
      (DX1_send (nI (2)) (u) (nI (50)) (-8) (nI (0)) x) ∧
      let z10 := FX1_send (nI (2)) (u) (nI (50)) (-8) (nI (0)) x
      True) ∧
    (¬ ((FX7_fileAt (u) (e) x) = (-1)) →
      (DX1_send (nI (2)) (u) (nI (50)) (-5) (nI (0)) x) ∧
      let z7 := FX1_send (nI (2)) (u) (nI (50)) (-5) (nI (0)) x
      True)) ∧
  (¬ ((FX7_fileAt (u) (e) x) = (-1)) →
    (DX4_sizeOf (FX7_fileAt (u) (e) x) x) ∧
    (((FX7_placeAt (u) (e) x) < (FX4_sizeOf (FX7_fileAt (u) (e) x) x)) →
      (DX3_takeInHand (u) (e) (nI (1)) (nI (0)) x) ∧
      let z15 := FX3_takeInHand (u) (e) (nI (1)) (nI (0)) x
      (DX4_blockOf (FX7_fileAt (u) (e) x) (((FX7_placeAt (u) (e) x) / (nI (8))).toInt64) z15) ∧
      let x18 : xD := (ab_up z15.1 347 10 (FX4_blockOf (FX7_fileAt (u) (e) x) (((FX7_placeAt (u) (e) x) / (nI (8))).toInt64) z15), z15.2)
      (DX3_ask (nI (20)) x18) ∧
      let z21 := FX3_ask (nI (20)) x18
      True) ∧
    (¬ ((FX7_placeAt (u) (e) x) < (FX4_sizeOf (FX7_fileAt (u) (e) x) x)) →
      (((FX7_fileAt (u) (e) x) = (-1)) →
        (DX1_send (nI (2)) (u) (nI (50)) (-8) (nI (0)) x) ∧
        let z27 := FX1_send (nI (2)) (u) (nI (50)) (-8) (nI (0)) x
        True) ∧
      (¬ ((FX7_fileAt (u) (e) x) = (-1)) →
        (DX1_send (nI (2)) (u) (nI (50)) (-5) (nI (0)) x) ∧
        let z24 := FX1_send (nI (2)) (u) (nI (50)) (-5) (nI (0)) x
        True)))
set_option maxRecDepth 100000 in
set_option maxHeartbeats 4000000 in
theorem c_X3_read {tt : Prop} (u : Int32) (e : Int32) (x : xD) (hD : DX3_read u e x) : ab_Met mX3_read 3 0 0 tt [.ref (347 : Nat), .ref (1 : Nat), .int (u), .int (e)] (sX x) (xQv (FX3_read u e x)) := by
  refine ab_Met.of rfl (Nat.le_of_ble_eq_true rfl) ?_
  show xV mX3_read 3 tt (xQv (FX3_read u e x)) 0 [some (.ref (347 : Nat)), some (.ref (1 : Nat)), some (.int (u)), some (.int (e)), none, none] [] x
  refine ab_aload_n (pc := 0) dX3_read_0 rfl rfl ?_
  refine xo_gr (pc := 1) (a := (353 : Nat)) dX3_read_1 fl_X3_21 (by decide) rfl rfl ?_
  refine ab_iload_n (pc := 4) dX3_read_4 rfl rfl ?_
  refine ab_iload_n (pc := 5) dX3_read_5 rfl rfl ?_
  obtain ⟨o1, hD⟩ := hD
  have e2 := c_X7_fileAt (tt := tt) _ _ _ o1
  refine xo_invr (N := mX7_fileAt) (pc := 6) (d' := 2) (av := [_, _]) dX3_read_6 ml_X3_107 fv_X7_fileAt (by decide) (Nat.le_of_ble_eq_true rfl) (by decide) e2 ?_
  refine ab_istore (pc := 9) dX3_read_9 (Nat.le_of_ble_eq_true rfl) rfl ?_
  refine ab_aload_n (pc := 11) dX3_read_11 rfl rfl ?_
  refine xo_gr (pc := 12) (a := (353 : Nat)) dX3_read_12 fl_X3_21 (by decide) rfl rfl ?_
  refine ab_iload_n (pc := 15) dX3_read_15 rfl rfl ?_
  refine ab_iload_n (pc := 16) dX3_read_16 rfl rfl ?_
  obtain ⟨o3, hD⟩ := hD
  have e4 := c_X7_placeAt (tt := tt) _ _ _ o3
  refine xo_invr (N := mX7_placeAt) (pc := 17) (d' := 2) (av := [_, _]) dX3_read_17 ml_X3_140 fv_X7_placeAt (by decide) (Nat.le_of_ble_eq_true rfl) (by decide) e4 ?_
  refine ab_istore (pc := 20) dX3_read_20 (Nat.le_of_ble_eq_true rfl) rfl ?_
  refine ab_iload (pc := 22) dX3_read_22 rfl ?_
  refine ab_iconst (pc := 24) (v := -1) dX3_read_24 (by decide) ?_
  refine ab_icmp_eq (pc := 25) (tgt := 42) dX3_read_25 (by decide) (fun c_25 => ?_) (fun c_25 => ?_)
  · replace hD := hD.1 c_25
    refine ab_aload_n (pc := 42) dX3_read_42 rfl rfl ?_
    refine ab_iconst (pc := 43) (v := nI 2) dX3_read_43 (by decide) ?_
    refine ab_iload_n (pc := 44) dX3_read_44 rfl rfl ?_
    refine ab_bipush (pc := 45) (v := nI 50) dX3_read_45 (by decide) ?_
    refine ab_iload (pc := 47) dX3_read_47 rfl ?_
    refine ab_iconst (pc := 49) (v := -1) dX3_read_49 (by decide) ?_
    refine ab_icmp_ne (pc := 50) (tgt := 58) dX3_read_50 (by decide) (fun c_50 => ?_) (fun c_50 => ?_)
    · replace hD := hD.2 c_50
      refine ab_bipush (pc := 58) (v := -5) dX3_read_58 (by decide) ?_
      refine ab_iconst (pc := 60) (v := nI 0) dX3_read_60 (by decide) ?_
      obtain ⟨o5, hD⟩ := hD
      have e6 := c_X1_send (tt := tt) _ _ _ _ _ _ o5
      refine xo_invv (N := mX1_send) (pc := 61) (d' := 2) (av := [_, _, _, _, _]) dX3_read_61 ml_X3_68 fv_X1_send (by decide) (Nat.le_of_ble_eq_true rfl) (by decide) e6 ?_
      refine xo_vr (pc := 64) dX3_read_64 rfl ?_
      (rw [FX3_read]; (first | rw [if_pos c_25] | (dsimp only; rw [if_pos c_25])); (first | rw [if_neg c_50] | (dsimp only; rw [if_neg c_50])); (first | done | rfl | (dsimp only; done)))
    · replace hD := hD.1 c_50
      refine ab_bipush (pc := 53) (v := -8) dX3_read_53 (by decide) ?_
      refine ab_goto (pc := 55) (tgt := 60) dX3_read_55 (by decide) ?_
      refine ab_iconst (pc := 60) (v := nI 0) dX3_read_60 (by decide) ?_
      obtain ⟨o8, hD⟩ := hD
      have e9 := c_X1_send (tt := tt) _ _ _ _ _ _ o8
      refine xo_invv (N := mX1_send) (pc := 61) (d' := 2) (av := [_, _, _, _, _]) dX3_read_61 ml_X3_68 fv_X1_send (by decide) (Nat.le_of_ble_eq_true rfl) (by decide) e9 ?_
      refine xo_vr (pc := 64) dX3_read_64 rfl ?_
      (rw [FX3_read]; (first | rw [if_pos c_25] | (dsimp only; rw [if_pos c_25])); (first | rw [if_pos c_50] | (dsimp only; rw [if_pos c_50])); (first | done | rfl | (dsimp only; done)))
  · replace hD := hD.2 c_25
    refine ab_iload (pc := 28) dX3_read_28 rfl ?_
    refine ab_aload_n (pc := 30) dX3_read_30 rfl rfl ?_
    refine xo_gr (pc := 31) (a := (348 : Nat)) dX3_read_31 fl_X3_12 (by decide) rfl rfl ?_
    refine ab_iload (pc := 34) dX3_read_34 rfl ?_
    obtain ⟨o11, hD⟩ := hD
    have e12 := c_X4_sizeOf (tt := tt) _ _ o11
    refine xo_invr (N := mX4_sizeOf) (pc := 36) (d' := 1) (av := [_]) dX3_read_36 ml_X3_110 fv_X4_sizeOf (by decide) (Nat.le_of_ble_eq_true rfl) (by decide) e12 ?_
    refine ab_icmp_lt (pc := 39) (tgt := 65) dX3_read_39 (by decide) (fun c_39 => ?_) (fun c_39 => ?_)
    · replace hD := hD.1 c_39
      refine ab_aload_n (pc := 65) dX3_read_65 rfl rfl ?_
      refine ab_iload_n (pc := 66) dX3_read_66 rfl rfl ?_
      refine ab_iload_n (pc := 67) dX3_read_67 rfl rfl ?_
      refine ab_iconst (pc := 68) (v := nI 1) dX3_read_68 (by decide) ?_
      refine ab_iconst (pc := 69) (v := nI 0) dX3_read_69 (by decide) ?_
      obtain ⟨o13, hD⟩ := hD
      have e14 := c_X3_takeInHand (tt := tt) _ _ _ _ _ o13
      refine xo_invv (N := mX3_takeInHand) (pc := 70) (d' := 0) (av := [_, _, _, _]) dX3_read_70 ml_X3_143 fv_X3_takeInHand (by decide) (Nat.le_of_ble_eq_true rfl) (by decide) e14 ?_
      refine ab_aload_n (pc := 73) dX3_read_73 rfl rfl ?_
      refine ab_aload_n (pc := 74) dX3_read_74 rfl rfl ?_
      refine xo_gr (pc := 75) (a := (348 : Nat)) dX3_read_75 fl_X3_12 (by decide) rfl rfl ?_
      refine ab_iload (pc := 78) dX3_read_78 rfl ?_
      refine ab_iload (pc := 80) dX3_read_80 rfl ?_
      refine ab_bipush (pc := 82) (v := nI 8) dX3_read_82 (by decide) ?_
      refine ab_idiv (pc := 84) dX3_read_84 (by decide) ?_
      refine ab_i2l (pc := 85) dX3_read_85 ?_
      obtain ⟨o16, hD⟩ := hD
      have e17 := c_X4_blockOf (tt := tt) _ _ _ o16
      refine xo_invr (N := mX4_blockOf) (pc := 86) (d' := 1) (av := [_, _]) dX3_read_86 ml_X3_147 fv_X4_blockOf (by decide) (Nat.le_of_ble_eq_true rfl) (by decide) e17 ?_
      refine xo_pi (pc := 89) dX3_read_89 fl_X3_151 (by decide) rfl (fun _ _ _ h => Or.inl (by cases h; rfl)) (ab_ok_i _) ?_
      refine ab_aload_n (pc := 92) dX3_read_92 rfl rfl ?_
      refine ab_aload_n (pc := 93) dX3_read_93 rfl rfl ?_
      refine ab_bipush (pc := 94) (v := nI 20) dX3_read_94 (by decide) ?_
      obtain ⟨o19, hD⟩ := hD
      have e20 := c_X3_ask (tt := tt) _ _ o19
      refine xo_invv (N := mX3_ask) (pc := 96) (d' := 2) (av := [_, _]) dX3_read_96 ml_X3_154 fv_X3_ask (by decide) (Nat.le_of_ble_eq_true rfl) (by decide) e20 ?_
      refine xo_vr (pc := 99) dX3_read_99 rfl ?_
      (rw [FX3_read]; (first | rw [if_neg c_25] | (dsimp only; rw [if_neg c_25])); (first | rw [if_pos c_39] | (dsimp only; rw [if_pos c_39])); (first | done | rfl | (dsimp only; done)))
    · replace hD := hD.2 c_39
      refine ab_aload_n (pc := 42) dX3_read_42 rfl rfl ?_
      refine ab_iconst (pc := 43) (v := nI 2) dX3_read_43 (by decide) ?_
      refine ab_iload_n (pc := 44) dX3_read_44 rfl rfl ?_
      refine ab_bipush (pc := 45) (v := nI 50) dX3_read_45 (by decide) ?_
      refine ab_iload (pc := 47) dX3_read_47 rfl ?_
      refine ab_iconst (pc := 49) (v := -1) dX3_read_49 (by decide) ?_
      refine ab_icmp_ne (pc := 50) (tgt := 58) dX3_read_50 (by decide) (fun c_50 => ?_) (fun c_50 => ?_)
      · replace hD := hD.2 c_50
        refine ab_bipush (pc := 58) (v := -5) dX3_read_58 (by decide) ?_
        refine ab_iconst (pc := 60) (v := nI 0) dX3_read_60 (by decide) ?_
        obtain ⟨o22, hD⟩ := hD
        have e23 := c_X1_send (tt := tt) _ _ _ _ _ _ o22
        refine xo_invv (N := mX1_send) (pc := 61) (d' := 2) (av := [_, _, _, _, _]) dX3_read_61 ml_X3_68 fv_X1_send (by decide) (Nat.le_of_ble_eq_true rfl) (by decide) e23 ?_
        refine xo_vr (pc := 64) dX3_read_64 rfl ?_
        (rw [FX3_read]; (first | rw [if_neg c_25] | (dsimp only; rw [if_neg c_25])); (first | rw [if_neg c_39] | (dsimp only; rw [if_neg c_39])); (first | rw [if_neg c_50] | (dsimp only; rw [if_neg c_50])); (first | done | rfl | (dsimp only; done)))
      · replace hD := hD.1 c_50
        refine ab_bipush (pc := 53) (v := -8) dX3_read_53 (by decide) ?_
        refine ab_goto (pc := 55) (tgt := 60) dX3_read_55 (by decide) ?_
        refine ab_iconst (pc := 60) (v := nI 0) dX3_read_60 (by decide) ?_
        obtain ⟨o25, hD⟩ := hD
        have e26 := c_X1_send (tt := tt) _ _ _ _ _ _ o25
        refine xo_invv (N := mX1_send) (pc := 61) (d' := 2) (av := [_, _, _, _, _]) dX3_read_61 ml_X3_68 fv_X1_send (by decide) (Nat.le_of_ble_eq_true rfl) (by decide) e26 ?_
        refine xo_vr (pc := 64) dX3_read_64 rfl ?_
        (rw [FX3_read]; (first | rw [if_neg c_25] | (dsimp only; rw [if_neg c_25])); (first | rw [if_neg c_39] | (dsimp only; rw [if_neg c_39])); (first | rw [if_pos c_50] | (dsimp only; rw [if_pos c_50])); (first | done | rfl | (dsimp only; done)))
def FX3_write_117 : Nat → Int32 → Int32 → Int32 → Nat → xD → xD
  | 0, _, _, _, _, x => x
  | n + 1, u, e, v, a8, x =>
    if 8 ≤ a8 then
      let z28 := FX3_ask (nI (21)) x
      z28
    else
      if a8 = 0 then
        let x33 : xD := (ab_up x.1 356 a8 (v), x.2)
        FX3_write_117 n u e v (a8 + 1) x33
      else
        let x31 : xD := (ab_up x.1 356 a8 (nI (0)), x.2)
        FX3_write_117 n u e v (a8 + 1) x31
def DX3_write_117 : Nat → Int32 → Int32 → Int32 → Nat → xD → Prop
  | 0, _, _, _, _, _ => False
  | n + 1, u, e, v, a8, x =>
    (a8 < 2147483648) ∧
    ((8 ≤ a8) →
      (DX3_ask (nI (21)) x) ∧
      let z28 := FX3_ask (nI (21)) x
      True) ∧
    (¬ (8 ≤ a8) →
      (a8 < 2147483648) ∧
      ((a8 = 0) →
        (a8 < 8) ∧
        let x33 : xD := (ab_up x.1 356 a8 (v), x.2)
        DX3_write_117 n u e v (a8 + 1) x33) ∧
      (¬ (a8 = 0) →
        (a8 < 8) ∧
        let x31 : xD := (ab_up x.1 356 a8 (nI (0)), x.2)
        DX3_write_117 n u e v (a8 + 1) x31))
set_option maxRecDepth 100000 in
set_option maxHeartbeats 4000000 in
theorem w_X3_write_117 {tt : Prop} : ∀ (n : Nat) (u : Int32) (e : Int32) (v : Int32) (a8 : Nat) (x : xD) (hD : DX3_write_117 n u e v a8 x), xV mX3_write 3 tt (xQv (FX3_write_117 n u e v a8 x)) 117 [some (.ref (347 : Nat)), some (.ref (1 : Nat)), none, none, some (.int (v)), none, none, none, some (.int (nI (a8)))] [] x := by
  intro n
  induction n with
  | zero => intros; rename_i hD; exact hD.elim
  | succ n ih =>
    intro u e v a8 x hD
    refine ab_iload (pc := 117) dX3_write_117 rfl ?_
    refine ab_bipush (pc := 119) (v := nI 8) dX3_write_119 (by decide) ?_
    obtain ⟨o25, hD⟩ := hD
    refine ab_icmp_geN (pc := 121) (tgt := 148) dX3_write_121 (by decide) o25 (by decide) (fun c_121 => ?_) (fun c_121 => ?_)
    · replace hD := hD.1 c_121
      refine ab_aload_n (pc := 148) dX3_write_148 rfl rfl ?_
      refine ab_aload_n (pc := 149) dX3_write_149 rfl rfl ?_
      refine ab_bipush (pc := 150) (v := nI 21) dX3_write_150 (by decide) ?_
      obtain ⟨o26, hD⟩ := hD
      have e27 := c_X3_ask (tt := tt) _ _ o26
      refine xo_invv (N := mX3_ask) (pc := 152) (d' := 2) (av := [_, _]) dX3_write_152 ml_X3_154 fv_X3_ask (by decide) (Nat.le_of_ble_eq_true rfl) (by decide) e27 ?_
      refine xo_vr (pc := 155) dX3_write_155 rfl ?_
      (rw [FX3_write_117]; (first | rw [if_pos c_121] | (dsimp only; rw [if_pos c_121])); (first | done | rfl | (dsimp only; done)))
    · replace hD := hD.2 c_121
      refine ab_aload_n (pc := 124) dX3_write_124 rfl rfl ?_
      refine xo_gr (pc := 125) (a := (356 : Nat)) dX3_write_125 fl_X3_25 (by decide) rfl rfl ?_
      refine ab_iload (pc := 128) dX3_write_128 rfl ?_
      refine ab_iload (pc := 130) dX3_write_130 rfl ?_
      obtain ⟨o29, hD⟩ := hD
      refine ab_if_neN (pc := 132) (tgt := 140) dX3_write_132 (by decide) o29 (fun c_132 => ?_) (fun c_132 => ?_)
      · replace hD := hD.2 c_132
        refine ab_iconst (pc := 140) (v := nI 0) dX3_write_140 (by decide) ?_
        obtain ⟨o30, hD⟩ := hD
        refine xo_ist (pc := 141) dX3_write_141 (by decide) rfl o30 (by decide) ?_
        refine ab_iinc (pc := 142) dX3_write_142 rfl (ab_inc _) (Nat.le_of_ble_eq_true rfl) rfl ?_
        refine ab_goto (pc := 145) (tgt := 117) dX3_write_145 (by decide) ?_
        refine ab_wk (ls2 := [some _, some _, none, none, some _, none, none, none, some _]) (And.intro rfl (And.intro rfl (And.intro rfl (And.intro rfl trivial)))) ?_
        refine xo_eqv ?_ (ih _ _ _ _ _ hD)
        (rw [FX3_write_117]; (first | rw [if_neg c_121] | (dsimp only; rw [if_neg c_121])); (first | rw [if_neg c_132] | (dsimp only; rw [if_neg c_132])); (first | done | rfl | (dsimp only; done)))
      · replace hD := hD.1 c_132
        refine ab_iload (pc := 135) dX3_write_135 rfl ?_
        refine ab_goto (pc := 137) (tgt := 141) dX3_write_137 (by decide) ?_
        obtain ⟨o32, hD⟩ := hD
        refine xo_ist (pc := 141) dX3_write_141 (by decide) rfl o32 (by decide) ?_
        refine ab_iinc (pc := 142) dX3_write_142 rfl (ab_inc _) (Nat.le_of_ble_eq_true rfl) rfl ?_
        refine ab_goto (pc := 145) (tgt := 117) dX3_write_145 (by decide) ?_
        refine ab_wk (ls2 := [some _, some _, none, none, some _, none, none, none, some _]) (And.intro rfl (And.intro rfl (And.intro rfl (And.intro rfl trivial)))) ?_
        refine xo_eqv ?_ (ih _ _ _ _ _ hD)
        (rw [FX3_write_117]; (first | rw [if_neg c_121] | (dsimp only; rw [if_neg c_121])); (first | rw [if_pos c_132] | (dsimp only; rw [if_pos c_132])); (first | done | rfl | (dsimp only; done)))
def FX3_write (u : Int32) (e : Int32) (v : Int32) (x : xD) : xD :=
  if (FX3_whyNotWrite (FX7_fileAt (u) (e) x) (FX7_placeAt (u) (e) x) x) = 0 then
    let z9 := FX3_takeInHand (u) (e) (nI (0)) (v) x
    if (FX4_needsBlock (FX7_fileAt (u) (e) x) (FX7_placeAt (u) (e) x) z9) = 0 then
      let x18 : xD := (ab_up z9.1 347 10 (FX4_blockOf (FX7_fileAt (u) (e) x) (((FX7_placeAt (u) (e) x) / (nI (8))).toInt64) z9), z9.2)
      let z21 := FX3_ask (nI (20)) x18
      z21
    else
      let z14 := FX4_takeBlock (FX7_fileAt (u) (e) x) (FX7_placeAt (u) (e) x) z9
      let x15 : xD := (ab_up z14.2.1 347 10 (z14.1), z14.2.2)
      FX3_write_117 9 u e v 0 x15
  else
    let z24 := FX1_send (nI (2)) (u) (nI (50)) (FX3_whyNotWrite (FX7_fileAt (u) (e) x) (FX7_placeAt (u) (e) x) x) (nI (0)) x
    z24
def DX3_write (u : Int32) (e : Int32) (v : Int32) (x : xD) : Prop :=
  (DX7_fileAt (u) (e) x) ∧
  (DX7_placeAt (u) (e) x) ∧
  (DX3_whyNotWrite (FX7_fileAt (u) (e) x) (FX7_placeAt (u) (e) x) x) ∧
  (((FX3_whyNotWrite (FX7_fileAt (u) (e) x) (FX7_placeAt (u) (e) x) x) = 0) →
    (DX3_takeInHand (u) (e) (nI (0)) (v) x) ∧
    let z9 := FX3_takeInHand (u) (e) (nI (0)) (v) x
    (DX4_needsBlock (FX7_fileAt (u) (e) x) (FX7_placeAt (u) (e) x) z9) ∧
    (((FX4_needsBlock (FX7_fileAt (u) (e) x) (FX7_placeAt (u) (e) x) z9) = 0) →
      (DX4_blockOf (FX7_fileAt (u) (e) x) (((FX7_placeAt (u) (e) x) / (nI (8))).toInt64) z9) ∧
      let x18 : xD := (ab_up z9.1 347 10 (FX4_blockOf (FX7_fileAt (u) (e) x) (((FX7_placeAt (u) (e) x) / (nI (8))).toInt64) z9), z9.2)
      (DX3_ask (nI (20)) x18) ∧
      let z21 := FX3_ask (nI (20)) x18
      True) ∧
    (¬ ((FX4_needsBlock (FX7_fileAt (u) (e) x) (FX7_placeAt (u) (e) x) z9) = 0) →
      (DX4_takeBlock (FX7_fileAt (u) (e) x) (FX7_placeAt (u) (e) x) z9) ∧
      let z14 := FX4_takeBlock (FX7_fileAt (u) (e) x) (FX7_placeAt (u) (e) x) z9
      let x15 : xD := (ab_up z14.2.1 347 10 (z14.1), z14.2.2)
      DX3_write_117 9 u e v 0 x15)) ∧
  (¬ ((FX3_whyNotWrite (FX7_fileAt (u) (e) x) (FX7_placeAt (u) (e) x) x) = 0) →
    (DX1_send (nI (2)) (u) (nI (50)) (FX3_whyNotWrite (FX7_fileAt (u) (e) x) (FX7_placeAt (u) (e) x) x) (nI (0)) x) ∧
    let z24 := FX1_send (nI (2)) (u) (nI (50)) (FX3_whyNotWrite (FX7_fileAt (u) (e) x) (FX7_placeAt (u) (e) x) x) (nI (0)) x
    True)
set_option maxRecDepth 100000 in
set_option maxHeartbeats 4000000 in
theorem c_X3_write {tt : Prop} (u : Int32) (e : Int32) (v : Int32) (x : xD) (hD : DX3_write u e v x) : ab_Met mX3_write 3 0 0 tt [.ref (347 : Nat), .ref (1 : Nat), .int (u), .int (e), .int (v)] (sX x) (xQv (FX3_write u e v x)) := by
  refine ab_Met.of rfl (Nat.le_of_ble_eq_true rfl) ?_
  show xV mX3_write 3 tt (xQv (FX3_write u e v x)) 0 [some (.ref (347 : Nat)), some (.ref (1 : Nat)), some (.int (u)), some (.int (e)), some (.int (v)), none, none, none, none] [] x
  refine ab_aload_n (pc := 0) dX3_write_0 rfl rfl ?_
  refine xo_gr (pc := 1) (a := (353 : Nat)) dX3_write_1 fl_X3_21 (by decide) rfl rfl ?_
  refine ab_iload_n (pc := 4) dX3_write_4 rfl rfl ?_
  refine ab_iload_n (pc := 5) dX3_write_5 rfl rfl ?_
  obtain ⟨o1, hD⟩ := hD
  have e2 := c_X7_fileAt (tt := tt) _ _ _ o1
  refine xo_invr (N := mX7_fileAt) (pc := 6) (d' := 2) (av := [_, _]) dX3_write_6 ml_X3_107 fv_X7_fileAt (by decide) (Nat.le_of_ble_eq_true rfl) (by decide) e2 ?_
  refine ab_istore (pc := 9) dX3_write_9 (Nat.le_of_ble_eq_true rfl) rfl ?_
  refine ab_aload_n (pc := 11) dX3_write_11 rfl rfl ?_
  refine xo_gr (pc := 12) (a := (353 : Nat)) dX3_write_12 fl_X3_21 (by decide) rfl rfl ?_
  refine ab_iload_n (pc := 15) dX3_write_15 rfl rfl ?_
  refine ab_iload_n (pc := 16) dX3_write_16 rfl rfl ?_
  obtain ⟨o3, hD⟩ := hD
  have e4 := c_X7_placeAt (tt := tt) _ _ _ o3
  refine xo_invr (N := mX7_placeAt) (pc := 17) (d' := 2) (av := [_, _]) dX3_write_17 ml_X3_140 fv_X7_placeAt (by decide) (Nat.le_of_ble_eq_true rfl) (by decide) e4 ?_
  refine ab_istore (pc := 20) dX3_write_20 (Nat.le_of_ble_eq_true rfl) rfl ?_
  refine ab_aload_n (pc := 22) dX3_write_22 rfl rfl ?_
  refine ab_iload (pc := 23) dX3_write_23 rfl ?_
  refine ab_iload (pc := 25) dX3_write_25 rfl ?_
  obtain ⟨o5, hD⟩ := hD
  have e6 := c_X3_whyNotWrite (tt := tt) _ _ _ o5
  refine xo_invr (N := mX3_whyNotWrite) (pc := 27) (d' := 2) (av := [_, _]) dX3_write_27 ml_X3_157 fv_X3_whyNotWrite (by decide) (Nat.le_of_ble_eq_true rfl) (by decide) e6 ?_
  refine ab_istore (pc := 30) dX3_write_30 (Nat.le_of_ble_eq_true rfl) rfl ?_
  refine ab_iload (pc := 32) dX3_write_32 rfl ?_
  refine ab_if_eq (pc := 34) (tgt := 49) dX3_write_34 (by decide) (fun c_34 => ?_) (fun c_34 => ?_)
  · replace hD := hD.1 c_34
    refine ab_aload_n (pc := 49) dX3_write_49 rfl rfl ?_
    refine ab_iload_n (pc := 50) dX3_write_50 rfl rfl ?_
    refine ab_iload_n (pc := 51) dX3_write_51 rfl rfl ?_
    refine ab_iconst (pc := 52) (v := nI 0) dX3_write_52 (by decide) ?_
    refine ab_iload (pc := 53) dX3_write_53 rfl ?_
    obtain ⟨o7, hD⟩ := hD
    have e8 := c_X3_takeInHand (tt := tt) _ _ _ _ _ o7
    refine xo_invv (N := mX3_takeInHand) (pc := 55) (d' := 0) (av := [_, _, _, _]) dX3_write_55 ml_X3_143 fv_X3_takeInHand (by decide) (Nat.le_of_ble_eq_true rfl) (by decide) e8 ?_
    refine ab_aload_n (pc := 58) dX3_write_58 rfl rfl ?_
    refine xo_gr (pc := 59) (a := (348 : Nat)) dX3_write_59 fl_X3_12 (by decide) rfl rfl ?_
    refine ab_iload (pc := 62) dX3_write_62 rfl ?_
    refine ab_iload (pc := 64) dX3_write_64 rfl ?_
    obtain ⟨o10, hD⟩ := hD
    have e11 := c_X4_needsBlock (tt := tt) _ _ _ o10
    refine xo_invr (N := mX4_needsBlock) (pc := 66) (d' := 1) (av := [_, _]) dX3_write_66 ml_X3_160 fv_X4_needsBlock (by decide) (Nat.le_of_ble_eq_true rfl) (by decide) e11 ?_
    refine ab_if_ne (pc := 69) (tgt := 99) dX3_write_69 (by decide) (fun c_69 => ?_) (fun c_69 => ?_)
    · replace hD := hD.2 c_69
      refine ab_aload_n (pc := 99) dX3_write_99 rfl rfl ?_
      refine ab_aload_n (pc := 100) dX3_write_100 rfl rfl ?_
      refine xo_gr (pc := 101) (a := (348 : Nat)) dX3_write_101 fl_X3_12 (by decide) rfl rfl ?_
      refine ab_iload (pc := 104) dX3_write_104 rfl ?_
      refine ab_iload (pc := 106) dX3_write_106 rfl ?_
      obtain ⟨o12, hD⟩ := hD
      have e13 := c_X4_takeBlock (tt := tt) _ _ _ o12
      refine xo_invi (N := mX4_takeBlock) (pc := 108) (d' := 1) (av := [_, _]) dX3_write_108 ml_X3_164 fv_X4_takeBlock (by decide) (Nat.le_of_ble_eq_true rfl) (by decide) e13 ?_
      refine xo_pi (pc := 111) dX3_write_111 fl_X3_151 (by decide) rfl (fun _ _ _ h => Or.inl (by cases h; rfl)) (ab_ok_i _) ?_
      refine ab_iconst (pc := 114) (v := nI 0) dX3_write_114 (by decide) ?_
      refine ab_istore (pc := 115) dX3_write_115 (Nat.le_of_ble_eq_true rfl) rfl ?_
      refine ab_wk (ls2 := [some _, some _, none, none, some _, none, none, none, some _]) (And.intro rfl (And.intro rfl (And.intro rfl (And.intro rfl trivial)))) ?_
      refine xo_eqv ?_ (w_X3_write_117 9 _ _ _ _ _ hD)
      (rw [FX3_write]; (first | rw [if_pos c_34] | (dsimp only; rw [if_pos c_34])); (first | rw [if_neg c_69] | (dsimp only; rw [if_neg c_69])); (first | done | rfl | (dsimp only; done)))
    · replace hD := hD.1 c_69
      refine ab_aload_n (pc := 72) dX3_write_72 rfl rfl ?_
      refine ab_aload_n (pc := 73) dX3_write_73 rfl rfl ?_
      refine xo_gr (pc := 74) (a := (348 : Nat)) dX3_write_74 fl_X3_12 (by decide) rfl rfl ?_
      refine ab_iload (pc := 77) dX3_write_77 rfl ?_
      refine ab_iload (pc := 79) dX3_write_79 rfl ?_
      refine ab_bipush (pc := 81) (v := nI 8) dX3_write_81 (by decide) ?_
      refine ab_idiv (pc := 83) dX3_write_83 (by decide) ?_
      refine ab_i2l (pc := 84) dX3_write_84 ?_
      obtain ⟨o16, hD⟩ := hD
      have e17 := c_X4_blockOf (tt := tt) _ _ _ o16
      refine xo_invr (N := mX4_blockOf) (pc := 85) (d' := 1) (av := [_, _]) dX3_write_85 ml_X3_147 fv_X4_blockOf (by decide) (Nat.le_of_ble_eq_true rfl) (by decide) e17 ?_
      refine xo_pi (pc := 88) dX3_write_88 fl_X3_151 (by decide) rfl (fun _ _ _ h => Or.inl (by cases h; rfl)) (ab_ok_i _) ?_
      refine ab_aload_n (pc := 91) dX3_write_91 rfl rfl ?_
      refine ab_aload_n (pc := 92) dX3_write_92 rfl rfl ?_
      refine ab_bipush (pc := 93) (v := nI 20) dX3_write_93 (by decide) ?_
      obtain ⟨o19, hD⟩ := hD
      have e20 := c_X3_ask (tt := tt) _ _ o19
      refine xo_invv (N := mX3_ask) (pc := 95) (d' := 2) (av := [_, _]) dX3_write_95 ml_X3_154 fv_X3_ask (by decide) (Nat.le_of_ble_eq_true rfl) (by decide) e20 ?_
      refine xo_vr (pc := 98) dX3_write_98 rfl ?_
      (rw [FX3_write]; (first | rw [if_pos c_34] | (dsimp only; rw [if_pos c_34])); (first | rw [if_pos c_69] | (dsimp only; rw [if_pos c_69])); (first | done | rfl | (dsimp only; done)))
  · replace hD := hD.2 c_34
    refine ab_aload_n (pc := 37) dX3_write_37 rfl rfl ?_
    refine ab_iconst (pc := 38) (v := nI 2) dX3_write_38 (by decide) ?_
    refine ab_iload_n (pc := 39) dX3_write_39 rfl rfl ?_
    refine ab_bipush (pc := 40) (v := nI 50) dX3_write_40 (by decide) ?_
    refine ab_iload (pc := 42) dX3_write_42 rfl ?_
    refine ab_iconst (pc := 44) (v := nI 0) dX3_write_44 (by decide) ?_
    obtain ⟨o22, hD⟩ := hD
    have e23 := c_X1_send (tt := tt) _ _ _ _ _ _ o22
    refine xo_invv (N := mX1_send) (pc := 45) (d' := 2) (av := [_, _, _, _, _]) dX3_write_45 ml_X3_68 fv_X1_send (by decide) (Nat.le_of_ble_eq_true rfl) (by decide) e23 ?_
    refine xo_vr (pc := 48) dX3_write_48 rfl ?_
    (rw [FX3_write]; (first | rw [if_neg c_34] | (dsimp only; rw [if_neg c_34])); (first | done | rfl | (dsimp only; done)))
def FX3_handle (u : Int32) (k : Int32) (e : Int32) (p : Int32) (x : xD) : Int32 × xD :=
  if (FX7_fileAt (u) (e) x) = (-1) then
    ((-8), x)
  else
    if (k) = (nI (7)) then
      ((FX4_sizeOf (FX7_fileAt (u) (e) x) x), x)
    else
      if (k) = (nI (2)) then
        let z10 := FX7_set (u) (e) (-1) (nI (0)) x
        ((nI (0)), z10)
      else
        if (p) < 0 then
          ((-1), x)
        else
          if (p) ≤ (FX4_sizeOf (FX7_fileAt (u) (e) x) x) then
            let z7 := FX7_setPlace (u) (e) (p) x
            ((nI (0)), z7)
          else
            ((-1), x)
def DX3_handle (u : Int32) (k : Int32) (e : Int32) (p : Int32) (x : xD) : Prop :=
  (DX7_fileAt (u) (e) x) ∧
  (((FX7_fileAt (u) (e) x) = (-1)) →
    True) ∧
  (¬ ((FX7_fileAt (u) (e) x) = (-1)) →
    (((k) = (nI (7))) →
      (DX4_sizeOf (FX7_fileAt (u) (e) x) x) ∧
      True) ∧
    (¬ ((k) = (nI (7))) →
      (((k) = (nI (2))) →
        (DX7_set (u) (e) (-1) (nI (0)) x) ∧
        let z10 := FX7_set (u) (e) (-1) (nI (0)) x
        True) ∧
      (¬ ((k) = (nI (2))) →
        (((p) < 0) →
          True) ∧
        (¬ ((p) < 0) →
          (DX4_sizeOf (FX7_fileAt (u) (e) x) x) ∧
          (((p) ≤ (FX4_sizeOf (FX7_fileAt (u) (e) x) x)) →
            (DX7_setPlace (u) (e) (p) x) ∧
            let z7 := FX7_setPlace (u) (e) (p) x
            True) ∧
          (¬ ((p) ≤ (FX4_sizeOf (FX7_fileAt (u) (e) x) x)) →
            True)))))
set_option maxRecDepth 100000 in
set_option maxHeartbeats 4000000 in
theorem c_X3_handle {tt : Prop} (u : Int32) (k : Int32) (e : Int32) (p : Int32) (x : xD) (hD : DX3_handle u k e p x) : ab_Met mX3_handle 3 0 0 tt [.ref (347 : Nat), .int (u), .int (k), .int (e), .int (p)] (sX x) (xQi (FX3_handle u k e p x)) := by
  refine ab_Met.of rfl (Nat.le_of_ble_eq_true rfl) ?_
  show xV mX3_handle 3 tt (xQi (FX3_handle u k e p x)) 0 [some (.ref (347 : Nat)), some (.int (u)), some (.int (k)), some (.int (e)), some (.int (p)), none] [] x
  refine ab_aload_n (pc := 0) dX3_handle_0 rfl rfl ?_
  refine xo_gr (pc := 1) (a := (353 : Nat)) dX3_handle_1 fl_X3_21 (by decide) rfl rfl ?_
  refine ab_iload_n (pc := 4) dX3_handle_4 rfl rfl ?_
  refine ab_iload_n (pc := 5) dX3_handle_5 rfl rfl ?_
  obtain ⟨o1, hD⟩ := hD
  have e2 := c_X7_fileAt (tt := tt) _ _ _ o1
  refine xo_invr (N := mX7_fileAt) (pc := 6) (d' := 2) (av := [_, _]) dX3_handle_6 ml_X3_107 fv_X7_fileAt (by decide) (Nat.le_of_ble_eq_true rfl) (by decide) e2 ?_
  refine ab_istore (pc := 9) dX3_handle_9 (Nat.le_of_ble_eq_true rfl) rfl ?_
  refine ab_iload (pc := 11) dX3_handle_11 rfl ?_
  refine ab_iconst (pc := 13) (v := -1) dX3_handle_13 (by decide) ?_
  refine ab_icmp_ne (pc := 14) (tgt := 20) dX3_handle_14 (by decide) (fun c_14 => ?_) (fun c_14 => ?_)
  · replace hD := hD.2 c_14
    refine ab_iload_n (pc := 20) dX3_handle_20 rfl rfl ?_
    refine ab_bipush (pc := 21) (v := nI 7) dX3_handle_21 (by decide) ?_
    refine ab_icmp_ne (pc := 23) (tgt := 36) dX3_handle_23 (by decide) (fun c_23 => ?_) (fun c_23 => ?_)
    · replace hD := hD.2 c_23
      refine ab_iload_n (pc := 36) dX3_handle_36 rfl rfl ?_
      refine ab_iconst (pc := 37) (v := nI 2) dX3_handle_37 (by decide) ?_
      refine ab_icmp_ne (pc := 38) (tgt := 54) dX3_handle_38 (by decide) (fun c_38 => ?_) (fun c_38 => ?_)
      · replace hD := hD.2 c_38
        refine ab_iload (pc := 54) dX3_handle_54 rfl ?_
        refine ab_if_lt (pc := 56) (tgt := 73) dX3_handle_56 (by decide) (fun c_56 => ?_) (fun c_56 => ?_)
        · refine ab_iconst (pc := 73) (v := -1) dX3_handle_73 (by decide) ?_
          refine xo_ir (pc := 74) dX3_handle_74 rfl rfl ?_
          (rw [FX3_handle]; (first | rw [if_neg c_14] | (dsimp only; rw [if_neg c_14])); (first | rw [if_neg c_23] | (dsimp only; rw [if_neg c_23])); (first | rw [if_neg c_38] | (dsimp only; rw [if_neg c_38])); (first | rw [if_pos c_56] | (dsimp only; rw [if_pos c_56])); (first | done | rfl | (dsimp only; done)))
        · replace hD := hD.2 c_56
          refine ab_iload (pc := 59) dX3_handle_59 rfl ?_
          refine ab_aload_n (pc := 61) dX3_handle_61 rfl rfl ?_
          refine xo_gr (pc := 62) (a := (348 : Nat)) dX3_handle_62 fl_X3_12 (by decide) rfl rfl ?_
          refine ab_iload (pc := 65) dX3_handle_65 rfl ?_
          obtain ⟨o3, hD⟩ := hD
          have e4 := c_X4_sizeOf (tt := tt) _ _ o3
          refine xo_invr (N := mX4_sizeOf) (pc := 67) (d' := 1) (av := [_]) dX3_handle_67 ml_X3_110 fv_X4_sizeOf (by decide) (Nat.le_of_ble_eq_true rfl) (by decide) e4 ?_
          refine ab_icmp_le (pc := 70) (tgt := 75) dX3_handle_70 (by decide) (fun c_70 => ?_) (fun c_70 => ?_)
          · replace hD := hD.1 c_70
            refine ab_aload_n (pc := 75) dX3_handle_75 rfl rfl ?_
            refine xo_gr (pc := 76) (a := (353 : Nat)) dX3_handle_76 fl_X3_21 (by decide) rfl rfl ?_
            refine ab_iload_n (pc := 79) dX3_handle_79 rfl rfl ?_
            refine ab_iload_n (pc := 80) dX3_handle_80 rfl rfl ?_
            refine ab_iload (pc := 81) dX3_handle_81 rfl ?_
            obtain ⟨o5, hD⟩ := hD
            have e6 := c_X7_setPlace (tt := tt) _ _ _ _ o5
            refine xo_invv (N := mX7_setPlace) (pc := 83) (d' := 2) (av := [_, _, _]) dX3_handle_83 ml_X3_117 fv_X7_setPlace (by decide) (Nat.le_of_ble_eq_true rfl) (by decide) e6 ?_
            refine ab_iconst (pc := 86) (v := nI 0) dX3_handle_86 (by decide) ?_
            refine xo_ir (pc := 87) dX3_handle_87 rfl rfl ?_
            (rw [FX3_handle]; (first | rw [if_neg c_14] | (dsimp only; rw [if_neg c_14])); (first | rw [if_neg c_23] | (dsimp only; rw [if_neg c_23])); (first | rw [if_neg c_38] | (dsimp only; rw [if_neg c_38])); (first | rw [if_neg c_56] | (dsimp only; rw [if_neg c_56])); (first | rw [if_pos c_70] | (dsimp only; rw [if_pos c_70])); (first | done | rfl | (dsimp only; done)))
          · refine ab_iconst (pc := 73) (v := -1) dX3_handle_73 (by decide) ?_
            refine xo_ir (pc := 74) dX3_handle_74 rfl rfl ?_
            (rw [FX3_handle]; (first | rw [if_neg c_14] | (dsimp only; rw [if_neg c_14])); (first | rw [if_neg c_23] | (dsimp only; rw [if_neg c_23])); (first | rw [if_neg c_38] | (dsimp only; rw [if_neg c_38])); (first | rw [if_neg c_56] | (dsimp only; rw [if_neg c_56])); (first | rw [if_neg c_70] | (dsimp only; rw [if_neg c_70])); (first | done | rfl | (dsimp only; done)))
      · replace hD := hD.1 c_38
        refine ab_aload_n (pc := 41) dX3_handle_41 rfl rfl ?_
        refine xo_gr (pc := 42) (a := (353 : Nat)) dX3_handle_42 fl_X3_21 (by decide) rfl rfl ?_
        refine ab_iload_n (pc := 45) dX3_handle_45 rfl rfl ?_
        refine ab_iload_n (pc := 46) dX3_handle_46 rfl rfl ?_
        refine ab_iconst (pc := 47) (v := -1) dX3_handle_47 (by decide) ?_
        refine ab_iconst (pc := 48) (v := nI 0) dX3_handle_48 (by decide) ?_
        obtain ⟨o8, hD⟩ := hD
        have e9 := c_X7_set (tt := tt) _ _ _ _ _ o8
        refine xo_invv (N := mX7_set) (pc := 49) (d' := 1) (av := [_, _, _, _]) dX3_handle_49 ml_X3_113 fv_X7_set (by decide) (Nat.le_of_ble_eq_true rfl) (by decide) e9 ?_
        refine ab_iconst (pc := 52) (v := nI 0) dX3_handle_52 (by decide) ?_
        refine xo_ir (pc := 53) dX3_handle_53 rfl rfl ?_
        (rw [FX3_handle]; (first | rw [if_neg c_14] | (dsimp only; rw [if_neg c_14])); (first | rw [if_neg c_23] | (dsimp only; rw [if_neg c_23])); (first | rw [if_pos c_38] | (dsimp only; rw [if_pos c_38])); (first | done | rfl | (dsimp only; done)))
    · replace hD := hD.1 c_23
      refine ab_aload_n (pc := 26) dX3_handle_26 rfl rfl ?_
      refine xo_gr (pc := 27) (a := (348 : Nat)) dX3_handle_27 fl_X3_12 (by decide) rfl rfl ?_
      refine ab_iload (pc := 30) dX3_handle_30 rfl ?_
      obtain ⟨o11, hD⟩ := hD
      have e12 := c_X4_sizeOf (tt := tt) _ _ o11
      refine xo_invr (N := mX4_sizeOf) (pc := 32) (d' := 1) (av := [_]) dX3_handle_32 ml_X3_110 fv_X4_sizeOf (by decide) (Nat.le_of_ble_eq_true rfl) (by decide) e12 ?_
      refine xo_ir (pc := 35) dX3_handle_35 rfl rfl ?_
      (rw [FX3_handle]; (first | rw [if_neg c_14] | (dsimp only; rw [if_neg c_14])); (first | rw [if_pos c_23] | (dsimp only; rw [if_pos c_23])); (first | done | rfl | (dsimp only; done)))
  · refine ab_bipush (pc := 17) (v := -8) dX3_handle_17 (by decide) ?_
    refine xo_ir (pc := 19) dX3_handle_19 rfl rfl ?_
    (rw [FX3_handle]; (first | rw [if_pos c_14] | (dsimp only; rw [if_pos c_14])); (first | done | rfl | (dsimp only; done)))
def FX3_openFile (u : Int32) (f : Int32) (x : xD) : Int32 × xD :=
  if (f) < 0 then
    ((-1), x)
  else
    if (f) < (nI (16)) then
      if (FX7_leastFree (u) x) = (-1) then
        ((-2), x)
      else
        if (FX4_has (f) x) = 0 then
          if (x.1 348 4) < (nI (8)) then
            let z10 := FX4_make (f) x
            let z13 := FX7_set (u) (FX7_leastFree (u) x) (f) (nI (0)) z10
            ((FX7_leastFree (u) x), z13)
          else
            ((-3), x)
        else
          let z7 := FX7_set (u) (FX7_leastFree (u) x) (f) (nI (0)) x
          ((FX7_leastFree (u) x), z7)
    else
      ((-1), x)
def DX3_openFile (u : Int32) (f : Int32) (x : xD) : Prop :=
  (((f) < 0) →
    True) ∧
  (¬ ((f) < 0) →
    (((f) < (nI (16))) →
      (DX7_leastFree (u) x) ∧
      (((FX7_leastFree (u) x) = (-1)) →
        True) ∧
      (¬ ((FX7_leastFree (u) x) = (-1)) →
        (DX4_has (f) x) ∧
        (((FX4_has (f) x) = 0) →
          (((x.1 348 4) < (nI (8))) →
            (DX4_make (f) x) ∧
            let z10 := FX4_make (f) x
            (DX7_set (u) (FX7_leastFree (u) x) (f) (nI (0)) z10) ∧
            let z13 := FX7_set (u) (FX7_leastFree (u) x) (f) (nI (0)) z10
            True) ∧
          (¬ ((x.1 348 4) < (nI (8))) →
            True)) ∧
        (¬ ((FX4_has (f) x) = 0) →
          (DX7_set (u) (FX7_leastFree (u) x) (f) (nI (0)) x) ∧
          let z7 := FX7_set (u) (FX7_leastFree (u) x) (f) (nI (0)) x
          True))) ∧
    (¬ ((f) < (nI (16))) →
      True))
set_option maxRecDepth 100000 in
set_option maxHeartbeats 4000000 in
theorem c_X3_openFile {tt : Prop} (u : Int32) (f : Int32) (x : xD) (hD : DX3_openFile u f x) : ab_Met mX3_openFile 3 0 0 tt [.ref (347 : Nat), .int (u), .int (f)] (sX x) (xQi (FX3_openFile u f x)) := by
  refine ab_Met.of rfl (Nat.le_of_ble_eq_true rfl) ?_
  show xV mX3_openFile 3 tt (xQi (FX3_openFile u f x)) 0 [some (.ref (347 : Nat)), some (.int (u)), some (.int (f)), none] [] x
  refine ab_iload_n (pc := 0) dX3_openFile_0 rfl rfl ?_
  refine ab_if_lt (pc := 1) (tgt := 10) dX3_openFile_1 (by decide) (fun c_1 => ?_) (fun c_1 => ?_)
  · refine ab_iconst (pc := 10) (v := -1) dX3_openFile_10 (by decide) ?_
    refine xo_ir (pc := 11) dX3_openFile_11 rfl rfl ?_
    (rw [FX3_openFile]; (first | rw [if_pos c_1] | (dsimp only; rw [if_pos c_1])); (first | done | rfl | (dsimp only; done)))
  · replace hD := hD.2 c_1
    refine ab_iload_n (pc := 4) dX3_openFile_4 rfl rfl ?_
    refine ab_bipush (pc := 5) (v := nI 16) dX3_openFile_5 (by decide) ?_
    refine ab_icmp_lt (pc := 7) (tgt := 12) dX3_openFile_7 (by decide) (fun c_7 => ?_) (fun c_7 => ?_)
    · replace hD := hD.1 c_7
      refine ab_aload_n (pc := 12) dX3_openFile_12 rfl rfl ?_
      refine xo_gr (pc := 13) (a := (353 : Nat)) dX3_openFile_13 fl_X3_21 (by decide) rfl rfl ?_
      refine ab_iload_n (pc := 16) dX3_openFile_16 rfl rfl ?_
      obtain ⟨o1, hD⟩ := hD
      have e2 := c_X7_leastFree (tt := tt) _ _ o1
      refine xo_invr (N := mX7_leastFree) (pc := 17) (d' := 2) (av := [_]) dX3_openFile_17 ml_X3_121 fv_X7_leastFree (by decide) (Nat.le_of_ble_eq_true rfl) (by decide) e2 ?_
      refine ab_istore_n (pc := 20) dX3_openFile_20 rfl (Nat.le_of_ble_eq_true rfl) rfl ?_
      refine ab_iload_n (pc := 21) dX3_openFile_21 rfl rfl ?_
      refine ab_iconst (pc := 22) (v := -1) dX3_openFile_22 (by decide) ?_
      refine ab_icmp_ne (pc := 23) (tgt := 29) dX3_openFile_23 (by decide) (fun c_23 => ?_) (fun c_23 => ?_)
      · replace hD := hD.2 c_23
        refine ab_aload_n (pc := 29) dX3_openFile_29 rfl rfl ?_
        refine xo_gr (pc := 30) (a := (348 : Nat)) dX3_openFile_30 fl_X3_12 (by decide) rfl rfl ?_
        refine ab_iload_n (pc := 33) dX3_openFile_33 rfl rfl ?_
        obtain ⟨o3, hD⟩ := hD
        have e4 := c_X4_has (tt := tt) _ _ o3
        refine xo_invr (N := mX4_has) (pc := 34) (d' := 0) (av := [_]) dX3_openFile_34 ml_X3_124 fv_X4_has (by decide) (Nat.le_of_ble_eq_true rfl) (by decide) e4 ?_
        refine ab_if_ne (pc := 37) (tgt := 63) dX3_openFile_37 (by decide) (fun c_37 => ?_) (fun c_37 => ?_)
        · replace hD := hD.2 c_37
          refine ab_aload_n (pc := 63) dX3_openFile_63 rfl rfl ?_
          refine xo_gr (pc := 64) (a := (353 : Nat)) dX3_openFile_64 fl_X3_21 (by decide) rfl rfl ?_
          refine ab_iload_n (pc := 67) dX3_openFile_67 rfl rfl ?_
          refine ab_iload_n (pc := 68) dX3_openFile_68 rfl rfl ?_
          refine ab_iload_n (pc := 69) dX3_openFile_69 rfl rfl ?_
          refine ab_iconst (pc := 70) (v := nI 0) dX3_openFile_70 (by decide) ?_
          obtain ⟨o5, hD⟩ := hD
          have e6 := c_X7_set (tt := tt) _ _ _ _ _ o5
          refine xo_invv (N := mX7_set) (pc := 71) (d' := 1) (av := [_, _, _, _]) dX3_openFile_71 ml_X3_113 fv_X7_set (by decide) (Nat.le_of_ble_eq_true rfl) (by decide) e6 ?_
          refine ab_iload_n (pc := 74) dX3_openFile_74 rfl rfl ?_
          refine xo_ir (pc := 75) dX3_openFile_75 rfl rfl ?_
          (rw [FX3_openFile]; (first | rw [if_neg c_1] | (dsimp only; rw [if_neg c_1])); (first | rw [if_pos c_7] | (dsimp only; rw [if_pos c_7])); (first | rw [if_neg c_23] | (dsimp only; rw [if_neg c_23])); (first | rw [if_neg c_37] | (dsimp only; rw [if_neg c_37])); (first | done | rfl | (dsimp only; done)))
        · replace hD := hD.1 c_37
          refine ab_aload_n (pc := 40) dX3_openFile_40 rfl rfl ?_
          refine xo_gr (pc := 41) (a := (348 : Nat)) dX3_openFile_41 fl_X3_12 (by decide) rfl rfl ?_
          refine xo_gi (pc := 44) dX3_openFile_44 fl_X3_128 (by decide) rfl ?_
          refine ab_bipush (pc := 47) (v := nI 8) dX3_openFile_47 (by decide) ?_
          refine ab_icmp_lt (pc := 49) (tgt := 55) dX3_openFile_49 (by decide) (fun c_49 => ?_) (fun c_49 => ?_)
          · replace hD := hD.1 c_49
            refine ab_aload_n (pc := 55) dX3_openFile_55 rfl rfl ?_
            refine xo_gr (pc := 56) (a := (348 : Nat)) dX3_openFile_56 fl_X3_12 (by decide) rfl rfl ?_
            refine ab_iload_n (pc := 59) dX3_openFile_59 rfl rfl ?_
            obtain ⟨o8, hD⟩ := hD
            have e9 := c_X4_make (tt := tt) _ _ o8
            refine xo_invv (N := mX4_make) (pc := 60) (d' := 0) (av := [_]) dX3_openFile_60 ml_X3_131 fv_X4_make (by decide) (Nat.le_of_ble_eq_true rfl) (by decide) e9 ?_
            refine ab_aload_n (pc := 63) dX3_openFile_63 rfl rfl ?_
            refine xo_gr (pc := 64) (a := (353 : Nat)) dX3_openFile_64 fl_X3_21 (by decide) rfl rfl ?_
            refine ab_iload_n (pc := 67) dX3_openFile_67 rfl rfl ?_
            refine ab_iload_n (pc := 68) dX3_openFile_68 rfl rfl ?_
            refine ab_iload_n (pc := 69) dX3_openFile_69 rfl rfl ?_
            refine ab_iconst (pc := 70) (v := nI 0) dX3_openFile_70 (by decide) ?_
            obtain ⟨o11, hD⟩ := hD
            have e12 := c_X7_set (tt := tt) _ _ _ _ _ o11
            refine xo_invv (N := mX7_set) (pc := 71) (d' := 1) (av := [_, _, _, _]) dX3_openFile_71 ml_X3_113 fv_X7_set (by decide) (Nat.le_of_ble_eq_true rfl) (by decide) e12 ?_
            refine ab_iload_n (pc := 74) dX3_openFile_74 rfl rfl ?_
            refine xo_ir (pc := 75) dX3_openFile_75 rfl rfl ?_
            (rw [FX3_openFile]; (first | rw [if_neg c_1] | (dsimp only; rw [if_neg c_1])); (first | rw [if_pos c_7] | (dsimp only; rw [if_pos c_7])); (first | rw [if_neg c_23] | (dsimp only; rw [if_neg c_23])); (first | rw [if_pos c_37] | (dsimp only; rw [if_pos c_37])); (first | rw [if_pos c_49] | (dsimp only; rw [if_pos c_49])); (first | done | rfl | (dsimp only; done)))
          · refine ab_bipush (pc := 52) (v := -3) dX3_openFile_52 (by decide) ?_
            refine xo_ir (pc := 54) dX3_openFile_54 rfl rfl ?_
            (rw [FX3_openFile]; (first | rw [if_neg c_1] | (dsimp only; rw [if_neg c_1])); (first | rw [if_pos c_7] | (dsimp only; rw [if_pos c_7])); (first | rw [if_neg c_23] | (dsimp only; rw [if_neg c_23])); (first | rw [if_pos c_37] | (dsimp only; rw [if_pos c_37])); (first | rw [if_neg c_49] | (dsimp only; rw [if_neg c_49])); (first | done | rfl | (dsimp only; done)))
      · refine ab_bipush (pc := 26) (v := -2) dX3_openFile_26 (by decide) ?_
        refine xo_ir (pc := 28) dX3_openFile_28 rfl rfl ?_
        (rw [FX3_openFile]; (first | rw [if_neg c_1] | (dsimp only; rw [if_neg c_1])); (first | rw [if_pos c_7] | (dsimp only; rw [if_pos c_7])); (first | rw [if_pos c_23] | (dsimp only; rw [if_pos c_23])); (first | done | rfl | (dsimp only; done)))
    · refine ab_iconst (pc := 10) (v := -1) dX3_openFile_10 (by decide) ?_
      refine xo_ir (pc := 11) dX3_openFile_11 rfl rfl ?_
      (rw [FX3_openFile]; (first | rw [if_neg c_1] | (dsimp only; rw [if_neg c_1])); (first | rw [if_neg c_7] | (dsimp only; rw [if_neg c_7])); (first | done | rfl | (dsimp only; done)))
def FX3_removeFile (f : Int32) (x : xD) : Int32 × xD :=
  if (FX4_has (f) x) = 0 then
    ((-1), x)
  else
    if (FX7_anybodyHas (f) x) = 0 then
      let z7 := FX4_discard (f) x
      ((nI (0)), z7)
    else
      ((-7), x)
def DX3_removeFile (f : Int32) (x : xD) : Prop :=
  (DX4_has (f) x) ∧
  (((FX4_has (f) x) = 0) →
    True) ∧
  (¬ ((FX4_has (f) x) = 0) →
    (DX7_anybodyHas (f) x) ∧
    (((FX7_anybodyHas (f) x) = 0) →
      (DX4_discard (f) x) ∧
      let z7 := FX4_discard (f) x
      True) ∧
    (¬ ((FX7_anybodyHas (f) x) = 0) →
      True))
set_option maxRecDepth 100000 in
set_option maxHeartbeats 4000000 in
theorem c_X3_removeFile {tt : Prop} (f : Int32) (x : xD) (hD : DX3_removeFile f x) : ab_Met mX3_removeFile 2 0 0 tt [.ref (347 : Nat), .int (f)] (sX x) (xQi (FX3_removeFile f x)) := by
  refine ab_Met.of rfl (Nat.le_of_ble_eq_true rfl) ?_
  show xV mX3_removeFile 2 tt (xQi (FX3_removeFile f x)) 0 [some (.ref (347 : Nat)), some (.int (f))] [] x
  refine ab_aload_n (pc := 0) dX3_removeFile_0 rfl rfl ?_
  refine xo_gr (pc := 1) (a := (348 : Nat)) dX3_removeFile_1 fl_X3_12 (by decide) rfl rfl ?_
  refine ab_iload_n (pc := 4) dX3_removeFile_4 rfl rfl ?_
  obtain ⟨o1, hD⟩ := hD
  have e2 := c_X4_has (tt := tt) _ _ o1
  refine xo_invr (N := mX4_has) (pc := 5) (d' := 0) (av := [_]) dX3_removeFile_5 ml_X3_124 fv_X4_has (by decide) (Nat.le_of_ble_eq_true rfl) (by decide) e2 ?_
  refine ab_if_ne (pc := 8) (tgt := 13) dX3_removeFile_8 (by decide) (fun c_8 => ?_) (fun c_8 => ?_)
  · replace hD := hD.2 c_8
    refine ab_aload_n (pc := 13) dX3_removeFile_13 rfl rfl ?_
    refine xo_gr (pc := 14) (a := (353 : Nat)) dX3_removeFile_14 fl_X3_21 (by decide) rfl rfl ?_
    refine ab_iload_n (pc := 17) dX3_removeFile_17 rfl rfl ?_
    obtain ⟨o3, hD⟩ := hD
    have e4 := c_X7_anybodyHas (tt := tt) _ _ o3
    refine xo_invr (N := mX7_anybodyHas) (pc := 18) (d' := 0) (av := [_]) dX3_removeFile_18 ml_X3_134 fv_X7_anybodyHas (by decide) (Nat.le_of_ble_eq_true rfl) (by decide) e4 ?_
    refine ab_if_eq (pc := 21) (tgt := 27) dX3_removeFile_21 (by decide) (fun c_21 => ?_) (fun c_21 => ?_)
    · replace hD := hD.1 c_21
      refine ab_aload_n (pc := 27) dX3_removeFile_27 rfl rfl ?_
      refine xo_gr (pc := 28) (a := (348 : Nat)) dX3_removeFile_28 fl_X3_12 (by decide) rfl rfl ?_
      refine ab_iload_n (pc := 31) dX3_removeFile_31 rfl rfl ?_
      obtain ⟨o5, hD⟩ := hD
      have e6 := c_X4_discard (tt := tt) _ _ o5
      refine xo_invv (N := mX4_discard) (pc := 32) (d' := 1) (av := [_]) dX3_removeFile_32 ml_X3_137 fv_X4_discard (by decide) (Nat.le_of_ble_eq_true rfl) (by decide) e6 ?_
      refine ab_iconst (pc := 35) (v := nI 0) dX3_removeFile_35 (by decide) ?_
      refine xo_ir (pc := 36) dX3_removeFile_36 rfl rfl ?_
      (rw [FX3_removeFile]; (first | rw [if_neg c_8] | (dsimp only; rw [if_neg c_8])); (first | rw [if_pos c_21] | (dsimp only; rw [if_pos c_21])); (first | done | rfl | (dsimp only; done)))
    · refine ab_bipush (pc := 24) (v := -7) dX3_removeFile_24 (by decide) ?_
      refine xo_ir (pc := 26) dX3_removeFile_26 rfl rfl ?_
      (rw [FX3_removeFile]; (first | rw [if_neg c_8] | (dsimp only; rw [if_neg c_8])); (first | rw [if_neg c_21] | (dsimp only; rw [if_neg c_21])); (first | done | rfl | (dsimp only; done)))
  · refine ab_iconst (pc := 11) (v := -1) dX3_removeFile_11 (by decide) ?_
    refine xo_ir (pc := 12) dX3_removeFile_12 rfl rfl ?_
    (rw [FX3_removeFile]; (first | rw [if_pos c_8] | (dsimp only; rw [if_pos c_8])); (first | done | rfl | (dsimp only; done)))
def FX3_goOn_51 : Nat → Nat → Int32 → Nat → xD → xD
  | 0, _, _, _, x => x
  | n + 1, f, a4, a5, x =>
    if 8 ≤ a5 then
      let z72 := FX3_ask (nI (21)) x
      z72
    else
      if (nI (a5)) = (a4) then
        let x79 : xD := (ab_up x.1 356 a5 (x.1 347 8), x.2)
        FX3_goOn_51 n f (a4) (a5 + 1) x79
      else
        let x77 : xD := (ab_up x.1 356 a5 (x.1 f a5), x.2)
        FX3_goOn_51 n f (a4) (a5 + 1) x77
def DX3_goOn_51 : Nat → Nat → Int32 → Nat → xD → Prop
  | 0, _, _, _, _ => False
  | n + 1, f, a4, a5, x =>
    (a5 < 2147483648) ∧
    ((8 ≤ a5) →
      (DX3_ask (nI (21)) x) ∧
      let z72 := FX3_ask (nI (21)) x
      True) ∧
    (¬ (8 ≤ a5) →
      (((nI (a5)) = (a4)) →
        (a5 < 8) ∧
        let x79 : xD := (ab_up x.1 356 a5 (x.1 347 8), x.2)
        DX3_goOn_51 n f (a4) (a5 + 1) x79) ∧
      (¬ ((nI (a5)) = (a4)) →
        (isX f 100) ∧
        (a5 < (shX f).2) ∧
        ((shX f).2 < 2147483648) ∧
        (a5 < 8) ∧
        let x77 : xD := (ab_up x.1 356 a5 (x.1 f a5), x.2)
        DX3_goOn_51 n f (a4) (a5 + 1) x77))
set_option maxRecDepth 100000 in
set_option maxHeartbeats 4000000 in
theorem w_X3_goOn_51 {tt : Prop} : ∀ (n : Nat) (f : Nat) (a4 : Int32) (a5 : Nat) (x : xD) (hD : DX3_goOn_51 n f a4 a5 x), xV mX3_goOn 3 tt (xQv (FX3_goOn_51 n f a4 a5 x)) 51 [some (.ref (347 : Nat)), some (.ref (1 : Nat)), some (.ref (f : Nat)), none, some (.int (a4)), some (.int (nI (a5)))] [] x := by
  intro n
  induction n with
  | zero => intros; rename_i hD; exact hD.elim
  | succ n ih =>
    intro f a4 a5 x hD
    refine ab_iload (pc := 51) dX3_goOn_51 rfl ?_
    refine ab_bipush (pc := 53) (v := nI 8) dX3_goOn_53 (by decide) ?_
    obtain ⟨o69, hD⟩ := hD
    refine ab_icmp_geN (pc := 55) (tgt := 89) dX3_goOn_55 (by decide) o69 (by decide) (fun c_55 => ?_) (fun c_55 => ?_)
    · replace hD := hD.1 c_55
      refine ab_aload_n (pc := 89) dX3_goOn_89 rfl rfl ?_
      refine ab_aload_n (pc := 90) dX3_goOn_90 rfl rfl ?_
      refine ab_bipush (pc := 91) (v := nI 21) dX3_goOn_91 (by decide) ?_
      obtain ⟨o70, hD⟩ := hD
      have e71 := c_X3_ask (tt := tt) _ _ o70
      refine xo_invv (N := mX3_ask) (pc := 93) (d' := 2) (av := [_, _]) dX3_goOn_93 ml_X3_154 fv_X3_ask (by decide) (Nat.le_of_ble_eq_true rfl) (by decide) e71 ?_
      refine xo_vr (pc := 96) dX3_goOn_96 rfl ?_
      (rw [FX3_goOn_51]; (first | rw [if_pos c_55] | (dsimp only; rw [if_pos c_55])); (first | done | rfl | (dsimp only; done)))
    · replace hD := hD.2 c_55
      refine ab_aload_n (pc := 58) dX3_goOn_58 rfl rfl ?_
      refine xo_gr (pc := 59) (a := (356 : Nat)) dX3_goOn_59 fl_X3_25 (by decide) rfl rfl ?_
      refine ab_iload (pc := 62) dX3_goOn_62 rfl ?_
      refine ab_iload (pc := 64) dX3_goOn_64 rfl ?_
      refine ab_iload (pc := 66) dX3_goOn_66 rfl ?_
      refine ab_icmp_ne (pc := 68) (tgt := 78) dX3_goOn_68 (by decide) (fun c_68 => ?_) (fun c_68 => ?_)
      · replace hD := hD.2 c_68
        refine ab_aload_n (pc := 78) dX3_goOn_78 rfl rfl ?_
        refine ab_iload (pc := 79) dX3_goOn_79 rfl ?_
        obtain ⟨o73, hD⟩ := hD
        obtain ⟨o74, hD⟩ := hD
        obtain ⟨o75, hD⟩ := hD
        refine xo_ild (pc := 81) dX3_goOn_81 o73 rfl o74 o75 ?_
        obtain ⟨o76, hD⟩ := hD
        refine xo_ist (pc := 82) dX3_goOn_82 (by decide) rfl o76 (by decide) ?_
        refine ab_iinc (pc := 83) dX3_goOn_83 rfl (ab_inc _) (Nat.le_of_ble_eq_true rfl) rfl ?_
        refine ab_goto (pc := 86) (tgt := 51) dX3_goOn_86 (by decide) ?_
        refine ab_wk (ls2 := [some _, some _, some _, none, some _, some _]) (And.intro rfl (And.intro rfl (And.intro rfl (And.intro rfl (And.intro rfl trivial))))) ?_
        refine xo_eqv ?_ (ih _ _ _ _ hD)
        (rw [FX3_goOn_51]; (first | rw [if_neg c_55] | (dsimp only; rw [if_neg c_55])); (first | rw [if_neg c_68] | (dsimp only; rw [if_neg c_68])); (first | done | rfl | (dsimp only; done)))
      · replace hD := hD.1 c_68
        refine ab_aload_n (pc := 71) dX3_goOn_71 rfl rfl ?_
        refine xo_gi (pc := 72) dX3_goOn_72 fl_X3_179 (by decide) rfl ?_
        refine ab_goto (pc := 75) (tgt := 82) dX3_goOn_75 (by decide) ?_
        obtain ⟨o78, hD⟩ := hD
        refine xo_ist (pc := 82) dX3_goOn_82 (by decide) rfl o78 (by decide) ?_
        refine ab_iinc (pc := 83) dX3_goOn_83 rfl (ab_inc _) (Nat.le_of_ble_eq_true rfl) rfl ?_
        refine ab_goto (pc := 86) (tgt := 51) dX3_goOn_86 (by decide) ?_
        refine ab_wk (ls2 := [some _, some _, some _, none, some _, some _]) (And.intro rfl (And.intro rfl (And.intro rfl (And.intro rfl (And.intro rfl trivial))))) ?_
        refine xo_eqv ?_ (ih _ _ _ _ hD)
        (rw [FX3_goOn_51]; (first | rw [if_neg c_55] | (dsimp only; rw [if_neg c_55])); (first | rw [if_pos c_68] | (dsimp only; rw [if_pos c_68])); (first | done | rfl | (dsimp only; done)))
def FX3_goOn (f : Nat) (x : xD) : xD :=
  if (x.1 347 2) = 0 then
    x
  else
    if (x.1 347 5) = 0 then
      if (x.1 347 9) = (nI (20)) then
        FX3_goOn_51 9 f (FXJ9_floorMod_7cf53 (FX7_placeAt (x.1 347 6) (x.1 347 7) x) (nI (8))) 0 x
      else
        let x37 : xD := (ab_up x.1 347 2 (nI (0)), x.2)
        if (x37.1 347 5) = 0 then
          let z55 := FX4_growOver (FX7_fileAt (x37.1 347 6) (x37.1 347 7) x37) (FX7_placeAt (x.1 347 6) (x.1 347 7) x) x37
          let z58 := FX7_setPlace (z55.1 347 6) (z55.1 347 7) ((FX7_placeAt (x.1 347 6) (x.1 347 7) x) + (nI (1))) z55
          if (z58.1 347 5) = 0 then
            let z61 := FX1_send (nI (2)) (z58.1 347 6) (nI (50)) (nI (0)) (nI (0)) z58
            z61
          else
            let z68 := FX1_send (nI (2)) (z58.1 347 6) (nI (50)) (z58.1 f ((FXJ9_floorMod_7cf53 (FX7_placeAt (x.1 347 6) (x.1 347 7) x) (nI (8))).toNatClampNeg)) (nI (0)) z58
            z68
        else
          let z40 := FX7_setPlace (x37.1 347 6) (x37.1 347 7) ((FX7_placeAt (x.1 347 6) (x.1 347 7) x) + (nI (1))) x37
          if (z40.1 347 5) = 0 then
            let z43 := FX1_send (nI (2)) (z40.1 347 6) (nI (50)) (nI (0)) (nI (0)) z40
            z43
          else
            let z50 := FX1_send (nI (2)) (z40.1 347 6) (nI (50)) (z40.1 f ((FXJ9_floorMod_7cf53 (FX7_placeAt (x.1 347 6) (x.1 347 7) x) (nI (8))).toNatClampNeg)) (nI (0)) z40
            z50
    else
      let x5 : xD := (ab_up x.1 347 2 (nI (0)), x.2)
      if (x5.1 347 5) = 0 then
        let z23 := FX4_growOver (FX7_fileAt (x5.1 347 6) (x5.1 347 7) x5) (FX7_placeAt (x.1 347 6) (x.1 347 7) x) x5
        let z26 := FX7_setPlace (z23.1 347 6) (z23.1 347 7) ((FX7_placeAt (x.1 347 6) (x.1 347 7) x) + (nI (1))) z23
        if (z26.1 347 5) = 0 then
          let z29 := FX1_send (nI (2)) (z26.1 347 6) (nI (50)) (nI (0)) (nI (0)) z26
          z29
        else
          let z36 := FX1_send (nI (2)) (z26.1 347 6) (nI (50)) (z26.1 f ((FXJ9_floorMod_7cf53 (FX7_placeAt (x.1 347 6) (x.1 347 7) x) (nI (8))).toNatClampNeg)) (nI (0)) z26
          z36
      else
        let z8 := FX7_setPlace (x5.1 347 6) (x5.1 347 7) ((FX7_placeAt (x.1 347 6) (x.1 347 7) x) + (nI (1))) x5
        if (z8.1 347 5) = 0 then
          let z11 := FX1_send (nI (2)) (z8.1 347 6) (nI (50)) (nI (0)) (nI (0)) z8
          z11
        else
          let z18 := FX1_send (nI (2)) (z8.1 347 6) (nI (50)) (z8.1 f ((FXJ9_floorMod_7cf53 (FX7_placeAt (x.1 347 6) (x.1 347 7) x) (nI (8))).toNatClampNeg)) (nI (0)) z8
          z18
def DX3_goOn (f : Nat) (x : xD) : Prop :=
  (((x.1 347 2) = 0) →
    True) ∧
  (¬ ((x.1 347 2) = 0) →
    (DX7_placeAt (x.1 347 6) (x.1 347 7) x) ∧
    (DXJ9_floorMod_7cf53 (FX7_placeAt (x.1 347 6) (x.1 347 7) x) (nI (8)) x) ∧
    (((x.1 347 5) = 0) →
      (((x.1 347 9) = (nI (20))) →
        DX3_goOn_51 9 f (FXJ9_floorMod_7cf53 (FX7_placeAt (x.1 347 6) (x.1 347 7) x) (nI (8))) 0 x) ∧
      (¬ ((x.1 347 9) = (nI (20))) →
        let x37 : xD := (ab_up x.1 347 2 (nI (0)), x.2)
        (((x37.1 347 5) = 0) →
          (DX7_fileAt (x37.1 347 6) (x37.1 347 7) x37) ∧
          (DX4_growOver (FX7_fileAt (x37.1 347 6) (x37.1 347 7) x37) (FX7_placeAt (x.1 347 6) (x.1 347 7) x) x37) ∧
          let z55 := FX4_growOver (FX7_fileAt (x37.1 347 6) (x37.1 347 7) x37) (FX7_placeAt (x.1 347 6) (x.1 347 7) x) x37
          (DX7_setPlace (z55.1 347 6) (z55.1 347 7) ((FX7_placeAt (x.1 347 6) (x.1 347 7) x) + (nI (1))) z55) ∧
          let z58 := FX7_setPlace (z55.1 347 6) (z55.1 347 7) ((FX7_placeAt (x.1 347 6) (x.1 347 7) x) + (nI (1))) z55
          (((z58.1 347 5) = 0) →
            (DX1_send (nI (2)) (z58.1 347 6) (nI (50)) (nI (0)) (nI (0)) z58) ∧
            let z61 := FX1_send (nI (2)) (z58.1 347 6) (nI (50)) (nI (0)) (nI (0)) z58
            True) ∧
          (¬ ((z58.1 347 5) = 0) →
            (¬ (FXJ9_floorMod_7cf53 (FX7_placeAt (x.1 347 6) (x.1 347 7) x) (nI (8))) < 0) ∧
            (isX f 100) ∧
            (((FXJ9_floorMod_7cf53 (FX7_placeAt (x.1 347 6) (x.1 347 7) x) (nI (8))).toNatClampNeg) < (shX f).2) ∧
            ((shX f).2 < 2147483648) ∧
            (DX1_send (nI (2)) (z58.1 347 6) (nI (50)) (z58.1 f ((FXJ9_floorMod_7cf53 (FX7_placeAt (x.1 347 6) (x.1 347 7) x) (nI (8))).toNatClampNeg)) (nI (0)) z58) ∧
            let z68 := FX1_send (nI (2)) (z58.1 347 6) (nI (50)) (z58.1 f ((FXJ9_floorMod_7cf53 (FX7_placeAt (x.1 347 6) (x.1 347 7) x) (nI (8))).toNatClampNeg)) (nI (0)) z58
            True)) ∧
        (¬ ((x37.1 347 5) = 0) →
          (DX7_setPlace (x37.1 347 6) (x37.1 347 7) ((FX7_placeAt (x.1 347 6) (x.1 347 7) x) + (nI (1))) x37) ∧
          let z40 := FX7_setPlace (x37.1 347 6) (x37.1 347 7) ((FX7_placeAt (x.1 347 6) (x.1 347 7) x) + (nI (1))) x37
          (((z40.1 347 5) = 0) →
            (DX1_send (nI (2)) (z40.1 347 6) (nI (50)) (nI (0)) (nI (0)) z40) ∧
            let z43 := FX1_send (nI (2)) (z40.1 347 6) (nI (50)) (nI (0)) (nI (0)) z40
            True) ∧
          (¬ ((z40.1 347 5) = 0) →
            (¬ (FXJ9_floorMod_7cf53 (FX7_placeAt (x.1 347 6) (x.1 347 7) x) (nI (8))) < 0) ∧
            (isX f 100) ∧
            (((FXJ9_floorMod_7cf53 (FX7_placeAt (x.1 347 6) (x.1 347 7) x) (nI (8))).toNatClampNeg) < (shX f).2) ∧
            ((shX f).2 < 2147483648) ∧
            (DX1_send (nI (2)) (z40.1 347 6) (nI (50)) (z40.1 f ((FXJ9_floorMod_7cf53 (FX7_placeAt (x.1 347 6) (x.1 347 7) x) (nI (8))).toNatClampNeg)) (nI (0)) z40) ∧
            let z50 := FX1_send (nI (2)) (z40.1 347 6) (nI (50)) (z40.1 f ((FXJ9_floorMod_7cf53 (FX7_placeAt (x.1 347 6) (x.1 347 7) x) (nI (8))).toNatClampNeg)) (nI (0)) z40
            True)))) ∧
    (¬ ((x.1 347 5) = 0) →
      let x5 : xD := (ab_up x.1 347 2 (nI (0)), x.2)
      (((x5.1 347 5) = 0) →
        (DX7_fileAt (x5.1 347 6) (x5.1 347 7) x5) ∧
        (DX4_growOver (FX7_fileAt (x5.1 347 6) (x5.1 347 7) x5) (FX7_placeAt (x.1 347 6) (x.1 347 7) x) x5) ∧
        let z23 := FX4_growOver (FX7_fileAt (x5.1 347 6) (x5.1 347 7) x5) (FX7_placeAt (x.1 347 6) (x.1 347 7) x) x5
        (DX7_setPlace (z23.1 347 6) (z23.1 347 7) ((FX7_placeAt (x.1 347 6) (x.1 347 7) x) + (nI (1))) z23) ∧
        let z26 := FX7_setPlace (z23.1 347 6) (z23.1 347 7) ((FX7_placeAt (x.1 347 6) (x.1 347 7) x) + (nI (1))) z23
        (((z26.1 347 5) = 0) →
          (DX1_send (nI (2)) (z26.1 347 6) (nI (50)) (nI (0)) (nI (0)) z26) ∧
          let z29 := FX1_send (nI (2)) (z26.1 347 6) (nI (50)) (nI (0)) (nI (0)) z26
          True) ∧
        (¬ ((z26.1 347 5) = 0) →
          (¬ (FXJ9_floorMod_7cf53 (FX7_placeAt (x.1 347 6) (x.1 347 7) x) (nI (8))) < 0) ∧
          (isX f 100) ∧
          (((FXJ9_floorMod_7cf53 (FX7_placeAt (x.1 347 6) (x.1 347 7) x) (nI (8))).toNatClampNeg) < (shX f).2) ∧
          ((shX f).2 < 2147483648) ∧
          (DX1_send (nI (2)) (z26.1 347 6) (nI (50)) (z26.1 f ((FXJ9_floorMod_7cf53 (FX7_placeAt (x.1 347 6) (x.1 347 7) x) (nI (8))).toNatClampNeg)) (nI (0)) z26) ∧
          let z36 := FX1_send (nI (2)) (z26.1 347 6) (nI (50)) (z26.1 f ((FXJ9_floorMod_7cf53 (FX7_placeAt (x.1 347 6) (x.1 347 7) x) (nI (8))).toNatClampNeg)) (nI (0)) z26
          True)) ∧
      (¬ ((x5.1 347 5) = 0) →
        (DX7_setPlace (x5.1 347 6) (x5.1 347 7) ((FX7_placeAt (x.1 347 6) (x.1 347 7) x) + (nI (1))) x5) ∧
        let z8 := FX7_setPlace (x5.1 347 6) (x5.1 347 7) ((FX7_placeAt (x.1 347 6) (x.1 347 7) x) + (nI (1))) x5
        (((z8.1 347 5) = 0) →
          (DX1_send (nI (2)) (z8.1 347 6) (nI (50)) (nI (0)) (nI (0)) z8) ∧
          let z11 := FX1_send (nI (2)) (z8.1 347 6) (nI (50)) (nI (0)) (nI (0)) z8
          True) ∧
        (¬ ((z8.1 347 5) = 0) →
          (¬ (FXJ9_floorMod_7cf53 (FX7_placeAt (x.1 347 6) (x.1 347 7) x) (nI (8))) < 0) ∧
          (isX f 100) ∧
          (((FXJ9_floorMod_7cf53 (FX7_placeAt (x.1 347 6) (x.1 347 7) x) (nI (8))).toNatClampNeg) < (shX f).2) ∧
          ((shX f).2 < 2147483648) ∧
          (DX1_send (nI (2)) (z8.1 347 6) (nI (50)) (z8.1 f ((FXJ9_floorMod_7cf53 (FX7_placeAt (x.1 347 6) (x.1 347 7) x) (nI (8))).toNatClampNeg)) (nI (0)) z8) ∧
          let z18 := FX1_send (nI (2)) (z8.1 347 6) (nI (50)) (z8.1 f ((FXJ9_floorMod_7cf53 (FX7_placeAt (x.1 347 6) (x.1 347 7) x) (nI (8))).toNatClampNeg)) (nI (0)) z8
          True))))
set_option maxRecDepth 100000 in
set_option maxHeartbeats 4000000 in
theorem c_X3_goOn {tt : Prop} (f : Nat) (x : xD) (hD : DX3_goOn f x) : ab_Met mX3_goOn 3 0 0 tt [.ref (347 : Nat), .ref (1 : Nat), .ref (f : Nat)] (sX x) (xQv (FX3_goOn f x)) := by
  refine ab_Met.of rfl (Nat.le_of_ble_eq_true rfl) ?_
  show xV mX3_goOn 3 tt (xQv (FX3_goOn f x)) 0 [some (.ref (347 : Nat)), some (.ref (1 : Nat)), some (.ref (f : Nat)), none, none, none] [] x
  refine ab_aload_n (pc := 0) dX3_goOn_0 rfl rfl ?_
  refine xo_gi (pc := 1) dX3_goOn_1 fl_X3_39 (by decide) rfl ?_
  refine ab_if_ne (pc := 4) (tgt := 8) dX3_goOn_4 (by decide) (fun c_4 => ?_) (fun c_4 => ?_)
  · replace hD := hD.2 c_4
    refine ab_aload_n (pc := 8) dX3_goOn_8 rfl rfl ?_
    refine xo_gr (pc := 9) (a := (353 : Nat)) dX3_goOn_9 fl_X3_21 (by decide) rfl rfl ?_
    refine ab_aload_n (pc := 12) dX3_goOn_12 rfl rfl ?_
    refine xo_gi (pc := 13) dX3_goOn_13 fl_X3_170 (by decide) rfl ?_
    refine ab_aload_n (pc := 16) dX3_goOn_16 rfl rfl ?_
    refine xo_gi (pc := 17) dX3_goOn_17 fl_X3_173 (by decide) rfl ?_
    obtain ⟨o1, hD⟩ := hD
    have e2 := c_X7_placeAt (tt := tt) _ _ _ o1
    refine xo_invr (N := mX7_placeAt) (pc := 20) (d' := 2) (av := [_, _]) dX3_goOn_20 ml_X3_140 fv_X7_placeAt (by decide) (Nat.le_of_ble_eq_true rfl) (by decide) e2 ?_
    refine ab_istore_n (pc := 23) dX3_goOn_23 rfl (Nat.le_of_ble_eq_true rfl) rfl ?_
    refine ab_iload_n (pc := 24) dX3_goOn_24 rfl rfl ?_
    refine ab_bipush (pc := 25) (v := nI 8) dX3_goOn_25 (by decide) ?_
    obtain ⟨o3, hD⟩ := hD
    have e4 := c_XJ9_floorMod_7cf53 (tt := tt) _ _ _ o3
    refine xo_invs (N := mJ9_floorMod_7cf53) (pc := 27) (d' := 0) (av := [_, _]) dX3_goOn_27 ml_X3_200 fs_J9_floorMod_7cf53 (Nat.le_of_ble_eq_true rfl) (by decide) e4 ?_
    refine ab_istore (pc := 30) dX3_goOn_30 (Nat.le_of_ble_eq_true rfl) rfl ?_
    refine ab_aload_n (pc := 32) dX3_goOn_32 rfl rfl ?_
    refine xo_gi (pc := 33) dX3_goOn_33 fl_X3_176 (by decide) rfl ?_
    refine ab_if_ne (pc := 36) (tgt := 97) dX3_goOn_36 (by decide) (fun c_36 => ?_) (fun c_36 => ?_)
    · replace hD := hD.2 c_36
      refine ab_aload_n (pc := 97) dX3_goOn_97 rfl rfl ?_
      refine ab_iconst (pc := 98) (v := nI 0) dX3_goOn_98 (by decide) ?_
      refine xo_pi (pc := 99) dX3_goOn_99 fl_X3_39 (by decide) rfl (fun _ _ _ h => Or.inl (by cases h; rfl)) (ab_ok_b (Or.inl rfl)) ?_
      refine ab_aload_n (pc := 102) dX3_goOn_102 rfl rfl ?_
      refine xo_gi (pc := 103) dX3_goOn_103 fl_X3_176 (by decide) rfl ?_
      refine ab_if_ne (pc := 106) (tgt := 132) dX3_goOn_106 (by decide) (fun c_106 => ?_) (fun c_106 => ?_)
      · replace hD := hD.2 c_106
        refine ab_aload_n (pc := 132) dX3_goOn_132 rfl rfl ?_
        refine xo_gr (pc := 133) (a := (353 : Nat)) dX3_goOn_133 fl_X3_21 (by decide) rfl rfl ?_
        refine ab_aload_n (pc := 136) dX3_goOn_136 rfl rfl ?_
        refine xo_gi (pc := 137) dX3_goOn_137 fl_X3_170 (by decide) rfl ?_
        refine ab_aload_n (pc := 140) dX3_goOn_140 rfl rfl ?_
        refine xo_gi (pc := 141) dX3_goOn_141 fl_X3_173 (by decide) rfl ?_
        refine ab_iload_n (pc := 144) dX3_goOn_144 rfl rfl ?_
        refine ab_iconst (pc := 145) (v := nI 1) dX3_goOn_145 (by decide) ?_
        refine ab_iadd (pc := 146) dX3_goOn_146 ?_
        obtain ⟨o6, hD⟩ := hD
        have e7 := c_X7_setPlace (tt := tt) _ _ _ _ o6
        refine xo_invv (N := mX7_setPlace) (pc := 147) (d' := 2) (av := [_, _, _]) dX3_goOn_147 ml_X3_117 fv_X7_setPlace (by decide) (Nat.le_of_ble_eq_true rfl) (by decide) e7 ?_
        refine ab_aload_n (pc := 150) dX3_goOn_150 rfl rfl ?_
        refine ab_iconst (pc := 151) (v := nI 2) dX3_goOn_151 (by decide) ?_
        refine ab_aload_n (pc := 152) dX3_goOn_152 rfl rfl ?_
        refine xo_gi (pc := 153) dX3_goOn_153 fl_X3_170 (by decide) rfl ?_
        refine ab_bipush (pc := 156) (v := nI 50) dX3_goOn_156 (by decide) ?_
        refine ab_aload_n (pc := 158) dX3_goOn_158 rfl rfl ?_
        refine xo_gi (pc := 159) dX3_goOn_159 fl_X3_176 (by decide) rfl ?_
        refine ab_if_eq (pc := 162) (tgt := 172) dX3_goOn_162 (by decide) (fun c_162 => ?_) (fun c_162 => ?_)
        · replace hD := hD.1 c_162
          refine ab_iconst (pc := 172) (v := nI 0) dX3_goOn_172 (by decide) ?_
          refine ab_iconst (pc := 173) (v := nI 0) dX3_goOn_173 (by decide) ?_
          obtain ⟨o9, hD⟩ := hD
          have e10 := c_X1_send (tt := tt) _ _ _ _ _ _ o9
          refine xo_invv (N := mX1_send) (pc := 174) (d' := 2) (av := [_, _, _, _, _]) dX3_goOn_174 ml_X3_68 fv_X1_send (by decide) (Nat.le_of_ble_eq_true rfl) (by decide) e10 ?_
          refine xo_vr (pc := 177) dX3_goOn_177 rfl ?_
          (rw [FX3_goOn]; (first | rw [if_neg c_4] | (dsimp only; rw [if_neg c_4])); (first | rw [if_neg c_36] | (dsimp only; rw [if_neg c_36])); (first | rw [if_neg c_106] | (dsimp only; rw [if_neg c_106])); (first | rw [if_pos c_162] | (dsimp only; rw [if_pos c_162])); (first | done | rfl | (dsimp only; done)))
        · replace hD := hD.2 c_162
          refine ab_aload_n (pc := 165) dX3_goOn_165 rfl rfl ?_
          refine ab_iload (pc := 166) dX3_goOn_166 rfl ?_
          obtain ⟨o12, hD⟩ := hD
          refine ab_nat1 (ab_nat o12) ?_
          obtain ⟨o13, hD⟩ := hD
          obtain ⟨o14, hD⟩ := hD
          obtain ⟨o15, hD⟩ := hD
          refine xo_ild (pc := 168) dX3_goOn_168 o13 rfl o14 o15 ?_
          refine ab_goto (pc := 169) (tgt := 173) dX3_goOn_169 (by decide) ?_
          refine ab_iconst (pc := 173) (v := nI 0) dX3_goOn_173 (by decide) ?_
          obtain ⟨o16, hD⟩ := hD
          have e17 := c_X1_send (tt := tt) _ _ _ _ _ _ o16
          refine xo_invv (N := mX1_send) (pc := 174) (d' := 2) (av := [_, _, _, _, _]) dX3_goOn_174 ml_X3_68 fv_X1_send (by decide) (Nat.le_of_ble_eq_true rfl) (by decide) e17 ?_
          refine xo_vr (pc := 177) dX3_goOn_177 rfl ?_
          (rw [FX3_goOn]; (first | rw [if_neg c_4] | (dsimp only; rw [if_neg c_4])); (first | rw [if_neg c_36] | (dsimp only; rw [if_neg c_36])); (first | rw [if_neg c_106] | (dsimp only; rw [if_neg c_106])); (first | rw [if_neg c_162] | (dsimp only; rw [if_neg c_162])); (first | done | rfl | (dsimp only; done)))
      · replace hD := hD.1 c_106
        refine ab_aload_n (pc := 109) dX3_goOn_109 rfl rfl ?_
        refine xo_gr (pc := 110) (a := (348 : Nat)) dX3_goOn_110 fl_X3_12 (by decide) rfl rfl ?_
        refine ab_aload_n (pc := 113) dX3_goOn_113 rfl rfl ?_
        refine xo_gr (pc := 114) (a := (353 : Nat)) dX3_goOn_114 fl_X3_21 (by decide) rfl rfl ?_
        refine ab_aload_n (pc := 117) dX3_goOn_117 rfl rfl ?_
        refine xo_gi (pc := 118) dX3_goOn_118 fl_X3_170 (by decide) rfl ?_
        refine ab_aload_n (pc := 121) dX3_goOn_121 rfl rfl ?_
        refine xo_gi (pc := 122) dX3_goOn_122 fl_X3_173 (by decide) rfl ?_
        obtain ⟨o19, hD⟩ := hD
        have e20 := c_X7_fileAt (tt := tt) _ _ _ o19
        refine xo_invr (N := mX7_fileAt) (pc := 125) (d' := 2) (av := [_, _]) dX3_goOn_125 ml_X3_107 fv_X7_fileAt (by decide) (Nat.le_of_ble_eq_true rfl) (by decide) e20 ?_
        refine ab_iload_n (pc := 128) dX3_goOn_128 rfl rfl ?_
        obtain ⟨o21, hD⟩ := hD
        have e22 := c_X4_growOver (tt := tt) _ _ _ o21
        refine xo_invv (N := mX4_growOver) (pc := 129) (d' := 1) (av := [_, _]) dX3_goOn_129 ml_X3_205 fv_X4_growOver (by decide) (Nat.le_of_ble_eq_true rfl) (by decide) e22 ?_
        refine ab_aload_n (pc := 132) dX3_goOn_132 rfl rfl ?_
        refine xo_gr (pc := 133) (a := (353 : Nat)) dX3_goOn_133 fl_X3_21 (by decide) rfl rfl ?_
        refine ab_aload_n (pc := 136) dX3_goOn_136 rfl rfl ?_
        refine xo_gi (pc := 137) dX3_goOn_137 fl_X3_170 (by decide) rfl ?_
        refine ab_aload_n (pc := 140) dX3_goOn_140 rfl rfl ?_
        refine xo_gi (pc := 141) dX3_goOn_141 fl_X3_173 (by decide) rfl ?_
        refine ab_iload_n (pc := 144) dX3_goOn_144 rfl rfl ?_
        refine ab_iconst (pc := 145) (v := nI 1) dX3_goOn_145 (by decide) ?_
        refine ab_iadd (pc := 146) dX3_goOn_146 ?_
        obtain ⟨o24, hD⟩ := hD
        have e25 := c_X7_setPlace (tt := tt) _ _ _ _ o24
        refine xo_invv (N := mX7_setPlace) (pc := 147) (d' := 2) (av := [_, _, _]) dX3_goOn_147 ml_X3_117 fv_X7_setPlace (by decide) (Nat.le_of_ble_eq_true rfl) (by decide) e25 ?_
        refine ab_aload_n (pc := 150) dX3_goOn_150 rfl rfl ?_
        refine ab_iconst (pc := 151) (v := nI 2) dX3_goOn_151 (by decide) ?_
        refine ab_aload_n (pc := 152) dX3_goOn_152 rfl rfl ?_
        refine xo_gi (pc := 153) dX3_goOn_153 fl_X3_170 (by decide) rfl ?_
        refine ab_bipush (pc := 156) (v := nI 50) dX3_goOn_156 (by decide) ?_
        refine ab_aload_n (pc := 158) dX3_goOn_158 rfl rfl ?_
        refine xo_gi (pc := 159) dX3_goOn_159 fl_X3_176 (by decide) rfl ?_
        refine ab_if_eq (pc := 162) (tgt := 172) dX3_goOn_162 (by decide) (fun c_162 => ?_) (fun c_162 => ?_)
        · replace hD := hD.1 c_162
          refine ab_iconst (pc := 172) (v := nI 0) dX3_goOn_172 (by decide) ?_
          refine ab_iconst (pc := 173) (v := nI 0) dX3_goOn_173 (by decide) ?_
          obtain ⟨o27, hD⟩ := hD
          have e28 := c_X1_send (tt := tt) _ _ _ _ _ _ o27
          refine xo_invv (N := mX1_send) (pc := 174) (d' := 2) (av := [_, _, _, _, _]) dX3_goOn_174 ml_X3_68 fv_X1_send (by decide) (Nat.le_of_ble_eq_true rfl) (by decide) e28 ?_
          refine xo_vr (pc := 177) dX3_goOn_177 rfl ?_
          (rw [FX3_goOn]; (first | rw [if_neg c_4] | (dsimp only; rw [if_neg c_4])); (first | rw [if_neg c_36] | (dsimp only; rw [if_neg c_36])); (first | rw [if_pos c_106] | (dsimp only; rw [if_pos c_106])); (first | rw [if_pos c_162] | (dsimp only; rw [if_pos c_162])); (first | done | rfl | (dsimp only; done)))
        · replace hD := hD.2 c_162
          refine ab_aload_n (pc := 165) dX3_goOn_165 rfl rfl ?_
          refine ab_iload (pc := 166) dX3_goOn_166 rfl ?_
          obtain ⟨o30, hD⟩ := hD
          refine ab_nat1 (ab_nat o30) ?_
          obtain ⟨o31, hD⟩ := hD
          obtain ⟨o32, hD⟩ := hD
          obtain ⟨o33, hD⟩ := hD
          refine xo_ild (pc := 168) dX3_goOn_168 o31 rfl o32 o33 ?_
          refine ab_goto (pc := 169) (tgt := 173) dX3_goOn_169 (by decide) ?_
          refine ab_iconst (pc := 173) (v := nI 0) dX3_goOn_173 (by decide) ?_
          obtain ⟨o34, hD⟩ := hD
          have e35 := c_X1_send (tt := tt) _ _ _ _ _ _ o34
          refine xo_invv (N := mX1_send) (pc := 174) (d' := 2) (av := [_, _, _, _, _]) dX3_goOn_174 ml_X3_68 fv_X1_send (by decide) (Nat.le_of_ble_eq_true rfl) (by decide) e35 ?_
          refine xo_vr (pc := 177) dX3_goOn_177 rfl ?_
          (rw [FX3_goOn]; (first | rw [if_neg c_4] | (dsimp only; rw [if_neg c_4])); (first | rw [if_neg c_36] | (dsimp only; rw [if_neg c_36])); (first | rw [if_pos c_106] | (dsimp only; rw [if_pos c_106])); (first | rw [if_neg c_162] | (dsimp only; rw [if_neg c_162])); (first | done | rfl | (dsimp only; done)))
    · replace hD := hD.1 c_36
      refine ab_aload_n (pc := 39) dX3_goOn_39 rfl rfl ?_
      refine xo_gi (pc := 40) dX3_goOn_40 fl_X3_182 (by decide) rfl ?_
      refine ab_bipush (pc := 43) (v := nI 20) dX3_goOn_43 (by decide) ?_
      refine ab_icmp_ne (pc := 45) (tgt := 97) dX3_goOn_45 (by decide) (fun c_45 => ?_) (fun c_45 => ?_)
      · replace hD := hD.2 c_45
        refine ab_aload_n (pc := 97) dX3_goOn_97 rfl rfl ?_
        refine ab_iconst (pc := 98) (v := nI 0) dX3_goOn_98 (by decide) ?_
        refine xo_pi (pc := 99) dX3_goOn_99 fl_X3_39 (by decide) rfl (fun _ _ _ h => Or.inl (by cases h; rfl)) (ab_ok_b (Or.inl rfl)) ?_
        refine ab_aload_n (pc := 102) dX3_goOn_102 rfl rfl ?_
        refine xo_gi (pc := 103) dX3_goOn_103 fl_X3_176 (by decide) rfl ?_
        refine ab_if_ne (pc := 106) (tgt := 132) dX3_goOn_106 (by decide) (fun c_106 => ?_) (fun c_106 => ?_)
        · replace hD := hD.2 c_106
          refine ab_aload_n (pc := 132) dX3_goOn_132 rfl rfl ?_
          refine xo_gr (pc := 133) (a := (353 : Nat)) dX3_goOn_133 fl_X3_21 (by decide) rfl rfl ?_
          refine ab_aload_n (pc := 136) dX3_goOn_136 rfl rfl ?_
          refine xo_gi (pc := 137) dX3_goOn_137 fl_X3_170 (by decide) rfl ?_
          refine ab_aload_n (pc := 140) dX3_goOn_140 rfl rfl ?_
          refine xo_gi (pc := 141) dX3_goOn_141 fl_X3_173 (by decide) rfl ?_
          refine ab_iload_n (pc := 144) dX3_goOn_144 rfl rfl ?_
          refine ab_iconst (pc := 145) (v := nI 1) dX3_goOn_145 (by decide) ?_
          refine ab_iadd (pc := 146) dX3_goOn_146 ?_
          obtain ⟨o38, hD⟩ := hD
          have e39 := c_X7_setPlace (tt := tt) _ _ _ _ o38
          refine xo_invv (N := mX7_setPlace) (pc := 147) (d' := 2) (av := [_, _, _]) dX3_goOn_147 ml_X3_117 fv_X7_setPlace (by decide) (Nat.le_of_ble_eq_true rfl) (by decide) e39 ?_
          refine ab_aload_n (pc := 150) dX3_goOn_150 rfl rfl ?_
          refine ab_iconst (pc := 151) (v := nI 2) dX3_goOn_151 (by decide) ?_
          refine ab_aload_n (pc := 152) dX3_goOn_152 rfl rfl ?_
          refine xo_gi (pc := 153) dX3_goOn_153 fl_X3_170 (by decide) rfl ?_
          refine ab_bipush (pc := 156) (v := nI 50) dX3_goOn_156 (by decide) ?_
          refine ab_aload_n (pc := 158) dX3_goOn_158 rfl rfl ?_
          refine xo_gi (pc := 159) dX3_goOn_159 fl_X3_176 (by decide) rfl ?_
          refine ab_if_eq (pc := 162) (tgt := 172) dX3_goOn_162 (by decide) (fun c_162 => ?_) (fun c_162 => ?_)
          · replace hD := hD.1 c_162
            refine ab_iconst (pc := 172) (v := nI 0) dX3_goOn_172 (by decide) ?_
            refine ab_iconst (pc := 173) (v := nI 0) dX3_goOn_173 (by decide) ?_
            obtain ⟨o41, hD⟩ := hD
            have e42 := c_X1_send (tt := tt) _ _ _ _ _ _ o41
            refine xo_invv (N := mX1_send) (pc := 174) (d' := 2) (av := [_, _, _, _, _]) dX3_goOn_174 ml_X3_68 fv_X1_send (by decide) (Nat.le_of_ble_eq_true rfl) (by decide) e42 ?_
            refine xo_vr (pc := 177) dX3_goOn_177 rfl ?_
            (rw [FX3_goOn]; (first | rw [if_neg c_4] | (dsimp only; rw [if_neg c_4])); (first | rw [if_pos c_36] | (dsimp only; rw [if_pos c_36])); (first | rw [if_neg c_45] | (dsimp only; rw [if_neg c_45])); (first | rw [if_neg c_106] | (dsimp only; rw [if_neg c_106])); (first | rw [if_pos c_162] | (dsimp only; rw [if_pos c_162])); (first | done | rfl | (dsimp only; done)))
          · replace hD := hD.2 c_162
            refine ab_aload_n (pc := 165) dX3_goOn_165 rfl rfl ?_
            refine ab_iload (pc := 166) dX3_goOn_166 rfl ?_
            obtain ⟨o44, hD⟩ := hD
            refine ab_nat1 (ab_nat o44) ?_
            obtain ⟨o45, hD⟩ := hD
            obtain ⟨o46, hD⟩ := hD
            obtain ⟨o47, hD⟩ := hD
            refine xo_ild (pc := 168) dX3_goOn_168 o45 rfl o46 o47 ?_
            refine ab_goto (pc := 169) (tgt := 173) dX3_goOn_169 (by decide) ?_
            refine ab_iconst (pc := 173) (v := nI 0) dX3_goOn_173 (by decide) ?_
            obtain ⟨o48, hD⟩ := hD
            have e49 := c_X1_send (tt := tt) _ _ _ _ _ _ o48
            refine xo_invv (N := mX1_send) (pc := 174) (d' := 2) (av := [_, _, _, _, _]) dX3_goOn_174 ml_X3_68 fv_X1_send (by decide) (Nat.le_of_ble_eq_true rfl) (by decide) e49 ?_
            refine xo_vr (pc := 177) dX3_goOn_177 rfl ?_
            (rw [FX3_goOn]; (first | rw [if_neg c_4] | (dsimp only; rw [if_neg c_4])); (first | rw [if_pos c_36] | (dsimp only; rw [if_pos c_36])); (first | rw [if_neg c_45] | (dsimp only; rw [if_neg c_45])); (first | rw [if_neg c_106] | (dsimp only; rw [if_neg c_106])); (first | rw [if_neg c_162] | (dsimp only; rw [if_neg c_162])); (first | done | rfl | (dsimp only; done)))
        · replace hD := hD.1 c_106
          refine ab_aload_n (pc := 109) dX3_goOn_109 rfl rfl ?_
          refine xo_gr (pc := 110) (a := (348 : Nat)) dX3_goOn_110 fl_X3_12 (by decide) rfl rfl ?_
          refine ab_aload_n (pc := 113) dX3_goOn_113 rfl rfl ?_
          refine xo_gr (pc := 114) (a := (353 : Nat)) dX3_goOn_114 fl_X3_21 (by decide) rfl rfl ?_
          refine ab_aload_n (pc := 117) dX3_goOn_117 rfl rfl ?_
          refine xo_gi (pc := 118) dX3_goOn_118 fl_X3_170 (by decide) rfl ?_
          refine ab_aload_n (pc := 121) dX3_goOn_121 rfl rfl ?_
          refine xo_gi (pc := 122) dX3_goOn_122 fl_X3_173 (by decide) rfl ?_
          obtain ⟨o51, hD⟩ := hD
          have e52 := c_X7_fileAt (tt := tt) _ _ _ o51
          refine xo_invr (N := mX7_fileAt) (pc := 125) (d' := 2) (av := [_, _]) dX3_goOn_125 ml_X3_107 fv_X7_fileAt (by decide) (Nat.le_of_ble_eq_true rfl) (by decide) e52 ?_
          refine ab_iload_n (pc := 128) dX3_goOn_128 rfl rfl ?_
          obtain ⟨o53, hD⟩ := hD
          have e54 := c_X4_growOver (tt := tt) _ _ _ o53
          refine xo_invv (N := mX4_growOver) (pc := 129) (d' := 1) (av := [_, _]) dX3_goOn_129 ml_X3_205 fv_X4_growOver (by decide) (Nat.le_of_ble_eq_true rfl) (by decide) e54 ?_
          refine ab_aload_n (pc := 132) dX3_goOn_132 rfl rfl ?_
          refine xo_gr (pc := 133) (a := (353 : Nat)) dX3_goOn_133 fl_X3_21 (by decide) rfl rfl ?_
          refine ab_aload_n (pc := 136) dX3_goOn_136 rfl rfl ?_
          refine xo_gi (pc := 137) dX3_goOn_137 fl_X3_170 (by decide) rfl ?_
          refine ab_aload_n (pc := 140) dX3_goOn_140 rfl rfl ?_
          refine xo_gi (pc := 141) dX3_goOn_141 fl_X3_173 (by decide) rfl ?_
          refine ab_iload_n (pc := 144) dX3_goOn_144 rfl rfl ?_
          refine ab_iconst (pc := 145) (v := nI 1) dX3_goOn_145 (by decide) ?_
          refine ab_iadd (pc := 146) dX3_goOn_146 ?_
          obtain ⟨o56, hD⟩ := hD
          have e57 := c_X7_setPlace (tt := tt) _ _ _ _ o56
          refine xo_invv (N := mX7_setPlace) (pc := 147) (d' := 2) (av := [_, _, _]) dX3_goOn_147 ml_X3_117 fv_X7_setPlace (by decide) (Nat.le_of_ble_eq_true rfl) (by decide) e57 ?_
          refine ab_aload_n (pc := 150) dX3_goOn_150 rfl rfl ?_
          refine ab_iconst (pc := 151) (v := nI 2) dX3_goOn_151 (by decide) ?_
          refine ab_aload_n (pc := 152) dX3_goOn_152 rfl rfl ?_
          refine xo_gi (pc := 153) dX3_goOn_153 fl_X3_170 (by decide) rfl ?_
          refine ab_bipush (pc := 156) (v := nI 50) dX3_goOn_156 (by decide) ?_
          refine ab_aload_n (pc := 158) dX3_goOn_158 rfl rfl ?_
          refine xo_gi (pc := 159) dX3_goOn_159 fl_X3_176 (by decide) rfl ?_
          refine ab_if_eq (pc := 162) (tgt := 172) dX3_goOn_162 (by decide) (fun c_162 => ?_) (fun c_162 => ?_)
          · replace hD := hD.1 c_162
            refine ab_iconst (pc := 172) (v := nI 0) dX3_goOn_172 (by decide) ?_
            refine ab_iconst (pc := 173) (v := nI 0) dX3_goOn_173 (by decide) ?_
            obtain ⟨o59, hD⟩ := hD
            have e60 := c_X1_send (tt := tt) _ _ _ _ _ _ o59
            refine xo_invv (N := mX1_send) (pc := 174) (d' := 2) (av := [_, _, _, _, _]) dX3_goOn_174 ml_X3_68 fv_X1_send (by decide) (Nat.le_of_ble_eq_true rfl) (by decide) e60 ?_
            refine xo_vr (pc := 177) dX3_goOn_177 rfl ?_
            (rw [FX3_goOn]; (first | rw [if_neg c_4] | (dsimp only; rw [if_neg c_4])); (first | rw [if_pos c_36] | (dsimp only; rw [if_pos c_36])); (first | rw [if_neg c_45] | (dsimp only; rw [if_neg c_45])); (first | rw [if_pos c_106] | (dsimp only; rw [if_pos c_106])); (first | rw [if_pos c_162] | (dsimp only; rw [if_pos c_162])); (first | done | rfl | (dsimp only; done)))
          · replace hD := hD.2 c_162
            refine ab_aload_n (pc := 165) dX3_goOn_165 rfl rfl ?_
            refine ab_iload (pc := 166) dX3_goOn_166 rfl ?_
            obtain ⟨o62, hD⟩ := hD
            refine ab_nat1 (ab_nat o62) ?_
            obtain ⟨o63, hD⟩ := hD
            obtain ⟨o64, hD⟩ := hD
            obtain ⟨o65, hD⟩ := hD
            refine xo_ild (pc := 168) dX3_goOn_168 o63 rfl o64 o65 ?_
            refine ab_goto (pc := 169) (tgt := 173) dX3_goOn_169 (by decide) ?_
            refine ab_iconst (pc := 173) (v := nI 0) dX3_goOn_173 (by decide) ?_
            obtain ⟨o66, hD⟩ := hD
            have e67 := c_X1_send (tt := tt) _ _ _ _ _ _ o66
            refine xo_invv (N := mX1_send) (pc := 174) (d' := 2) (av := [_, _, _, _, _]) dX3_goOn_174 ml_X3_68 fv_X1_send (by decide) (Nat.le_of_ble_eq_true rfl) (by decide) e67 ?_
            refine xo_vr (pc := 177) dX3_goOn_177 rfl ?_
            (rw [FX3_goOn]; (first | rw [if_neg c_4] | (dsimp only; rw [if_neg c_4])); (first | rw [if_pos c_36] | (dsimp only; rw [if_pos c_36])); (first | rw [if_neg c_45] | (dsimp only; rw [if_neg c_45])); (first | rw [if_pos c_106] | (dsimp only; rw [if_pos c_106])); (first | rw [if_neg c_162] | (dsimp only; rw [if_neg c_162])); (first | done | rfl | (dsimp only; done)))
      · replace hD := hD.1 c_45
        refine ab_iconst (pc := 48) (v := nI 0) dX3_goOn_48 (by decide) ?_
        refine ab_istore (pc := 49) dX3_goOn_49 (Nat.le_of_ble_eq_true rfl) rfl ?_
        refine ab_wk (ls2 := [some _, some _, some _, none, some _, some _]) (And.intro rfl (And.intro rfl (And.intro rfl (And.intro rfl (And.intro rfl trivial))))) ?_
        refine xo_eqv ?_ (w_X3_goOn_51 9 _ _ _ _ hD)
        (rw [FX3_goOn]; (first | rw [if_neg c_4] | (dsimp only; rw [if_neg c_4])); (first | rw [if_pos c_36] | (dsimp only; rw [if_pos c_36])); (first | rw [if_pos c_45] | (dsimp only; rw [if_pos c_45])); (first | done | rfl | (dsimp only; done)))
  · refine xo_vr (pc := 7) dX3_goOn_7 rfl ?_
    (rw [FX3_goOn]; (first | rw [if_pos c_4] | (dsimp only; rw [if_pos c_4])); (first | done | rfl | (dsimp only; done)))
def FX3_takeTurn  (x : xD) : xD :=
  if (x.1 347 2) = 0 then
    let z3 := FX0_take 63 (nI (0)) x
    ab_o z3.1 (
      z3.2) (fun w4 =>
      if (z3.2.1 w4 2) = 1 then
        let z8 := FX3_openFile (z3.2.1 w4 1) (z3.2.1 w4 3) z3.2
        let z11 := FX1_send (nI (2)) (z3.2.1 w4 1) (nI (50)) (z8.1) (nI (0)) z8.2
        z11
      else if (z3.2.1 w4 2) = 2 then
        let z14 := FX3_handle (z3.2.1 w4 1) (z3.2.1 w4 2) (z3.2.1 w4 3) (z3.2.1 w4 4) z3.2
        let z17 := FX1_send (nI (2)) (z3.2.1 w4 1) (nI (50)) (z14.1) (nI (0)) z14.2
        z17
      else if (z3.2.1 w4 2) = 3 then
        let z20 := FX3_read (z3.2.1 w4 1) (z3.2.1 w4 3) z3.2
        z20
      else if (z3.2.1 w4 2) = 4 then
        let z23 := FX3_write (z3.2.1 w4 1) (z3.2.1 w4 3) (z3.2.1 w4 4) z3.2
        z23
      else if (z3.2.1 w4 2) = 5 then
        let z26 := FX3_handle (z3.2.1 w4 1) (z3.2.1 w4 2) (z3.2.1 w4 3) (z3.2.1 w4 4) z3.2
        let z29 := FX1_send (nI (2)) (z3.2.1 w4 1) (nI (50)) (z26.1) (nI (0)) z26.2
        z29
      else if (z3.2.1 w4 2) = 6 then
        let z32 := FX3_removeFile (z3.2.1 w4 3) z3.2
        let z35 := FX1_send (nI (2)) (z3.2.1 w4 1) (nI (50)) (z32.1) (nI (0)) z32.2
        z35
      else if (z3.2.1 w4 2) = 7 then
        let z38 := FX3_handle (z3.2.1 w4 1) (z3.2.1 w4 2) (z3.2.1 w4 3) (z3.2.1 w4 4) z3.2
        let z41 := FX1_send (nI (2)) (z3.2.1 w4 1) (nI (50)) (z38.1) (nI (0)) z38.2
        z41
      else if (z3.2.1 w4 2) = 22 then
        let z44 := FX3_goOn (w4 + 1) z3.2
        z44
      else if (z3.2.1 w4 2) = 30 then
        let z47 := FX7_copyAll (z3.2.1 w4 3) (z3.2.1 w4 4) z3.2
        let z50 := FX1_send (nI (2)) (nI (3)) (nI (32)) (nI (0)) (nI (0)) z47
        z50
      else if (z3.2.1 w4 2) = 31 then
        let z53 := FX7_closeAll (z3.2.1 w4 3) z3.2
        let z56 := FX1_send (nI (2)) (nI (3)) (nI (32)) (nI (0)) (nI (0)) z53
        z56
      else if (z3.2.1 w4 2) = 42 then
        let z59 := FX3_hearOfLife (z3.2.1 w4 3) z3.2
        z59
      else
        z3.2)
  else
    let z64 := FX0_take 63 (FX0_firstFor 63 (nI (3)) x) x
    ab_o z64.1 (
      z64.2) (fun w65 =>
      if (z64.2.1 w65 2) = 1 then
        let z69 := FX3_openFile (z64.2.1 w65 1) (z64.2.1 w65 3) z64.2
        let z72 := FX1_send (nI (2)) (z64.2.1 w65 1) (nI (50)) (z69.1) (nI (0)) z69.2
        z72
      else if (z64.2.1 w65 2) = 2 then
        let z75 := FX3_handle (z64.2.1 w65 1) (z64.2.1 w65 2) (z64.2.1 w65 3) (z64.2.1 w65 4) z64.2
        let z78 := FX1_send (nI (2)) (z64.2.1 w65 1) (nI (50)) (z75.1) (nI (0)) z75.2
        z78
      else if (z64.2.1 w65 2) = 3 then
        let z81 := FX3_read (z64.2.1 w65 1) (z64.2.1 w65 3) z64.2
        z81
      else if (z64.2.1 w65 2) = 4 then
        let z84 := FX3_write (z64.2.1 w65 1) (z64.2.1 w65 3) (z64.2.1 w65 4) z64.2
        z84
      else if (z64.2.1 w65 2) = 5 then
        let z87 := FX3_handle (z64.2.1 w65 1) (z64.2.1 w65 2) (z64.2.1 w65 3) (z64.2.1 w65 4) z64.2
        let z90 := FX1_send (nI (2)) (z64.2.1 w65 1) (nI (50)) (z87.1) (nI (0)) z87.2
        z90
      else if (z64.2.1 w65 2) = 6 then
        let z93 := FX3_removeFile (z64.2.1 w65 3) z64.2
        let z96 := FX1_send (nI (2)) (z64.2.1 w65 1) (nI (50)) (z93.1) (nI (0)) z93.2
        z96
      else if (z64.2.1 w65 2) = 7 then
        let z99 := FX3_handle (z64.2.1 w65 1) (z64.2.1 w65 2) (z64.2.1 w65 3) (z64.2.1 w65 4) z64.2
        let z102 := FX1_send (nI (2)) (z64.2.1 w65 1) (nI (50)) (z99.1) (nI (0)) z99.2
        z102
      else if (z64.2.1 w65 2) = 22 then
        let z105 := FX3_goOn (w65 + 1) z64.2
        z105
      else if (z64.2.1 w65 2) = 30 then
        let z108 := FX7_copyAll (z64.2.1 w65 3) (z64.2.1 w65 4) z64.2
        let z111 := FX1_send (nI (2)) (nI (3)) (nI (32)) (nI (0)) (nI (0)) z108
        z111
      else if (z64.2.1 w65 2) = 31 then
        let z114 := FX7_closeAll (z64.2.1 w65 3) z64.2
        let z117 := FX1_send (nI (2)) (nI (3)) (nI (32)) (nI (0)) (nI (0)) z114
        z117
      else if (z64.2.1 w65 2) = 42 then
        let z120 := FX3_hearOfLife (z64.2.1 w65 3) z64.2
        z120
      else
        z64.2)
def DX3_takeTurn  (x : xD) : Prop :=
  (((x.1 347 2) = 0) →
    (DX0_take 63 (nI (0)) x) ∧
    let z3 := FX0_take 63 (nI (0)) x
    (z3.1 = none →
      True) ∧
    (∀ w4 : Nat, z3.1 = some w4 →
      (isX w4 6) ∧
      ((z3.2.1 w4 2) = 1 →
        (DX3_openFile (z3.2.1 w4 1) (z3.2.1 w4 3) z3.2) ∧
        let z8 := FX3_openFile (z3.2.1 w4 1) (z3.2.1 w4 3) z3.2
        (DX1_send (nI (2)) (z3.2.1 w4 1) (nI (50)) (z8.1) (nI (0)) z8.2) ∧
        let z11 := FX1_send (nI (2)) (z3.2.1 w4 1) (nI (50)) (z8.1) (nI (0)) z8.2
        True) ∧
      ((z3.2.1 w4 2) = 2 →
        (DX3_handle (z3.2.1 w4 1) (z3.2.1 w4 2) (z3.2.1 w4 3) (z3.2.1 w4 4) z3.2) ∧
        let z14 := FX3_handle (z3.2.1 w4 1) (z3.2.1 w4 2) (z3.2.1 w4 3) (z3.2.1 w4 4) z3.2
        (DX1_send (nI (2)) (z3.2.1 w4 1) (nI (50)) (z14.1) (nI (0)) z14.2) ∧
        let z17 := FX1_send (nI (2)) (z3.2.1 w4 1) (nI (50)) (z14.1) (nI (0)) z14.2
        True) ∧
      ((z3.2.1 w4 2) = 3 →
        (DX3_read (z3.2.1 w4 1) (z3.2.1 w4 3) z3.2) ∧
        let z20 := FX3_read (z3.2.1 w4 1) (z3.2.1 w4 3) z3.2
        True) ∧
      ((z3.2.1 w4 2) = 4 →
        (DX3_write (z3.2.1 w4 1) (z3.2.1 w4 3) (z3.2.1 w4 4) z3.2) ∧
        let z23 := FX3_write (z3.2.1 w4 1) (z3.2.1 w4 3) (z3.2.1 w4 4) z3.2
        True) ∧
      ((z3.2.1 w4 2) = 5 →
        (DX3_handle (z3.2.1 w4 1) (z3.2.1 w4 2) (z3.2.1 w4 3) (z3.2.1 w4 4) z3.2) ∧
        let z26 := FX3_handle (z3.2.1 w4 1) (z3.2.1 w4 2) (z3.2.1 w4 3) (z3.2.1 w4 4) z3.2
        (DX1_send (nI (2)) (z3.2.1 w4 1) (nI (50)) (z26.1) (nI (0)) z26.2) ∧
        let z29 := FX1_send (nI (2)) (z3.2.1 w4 1) (nI (50)) (z26.1) (nI (0)) z26.2
        True) ∧
      ((z3.2.1 w4 2) = 6 →
        (DX3_removeFile (z3.2.1 w4 3) z3.2) ∧
        let z32 := FX3_removeFile (z3.2.1 w4 3) z3.2
        (DX1_send (nI (2)) (z3.2.1 w4 1) (nI (50)) (z32.1) (nI (0)) z32.2) ∧
        let z35 := FX1_send (nI (2)) (z3.2.1 w4 1) (nI (50)) (z32.1) (nI (0)) z32.2
        True) ∧
      ((z3.2.1 w4 2) = 7 →
        (DX3_handle (z3.2.1 w4 1) (z3.2.1 w4 2) (z3.2.1 w4 3) (z3.2.1 w4 4) z3.2) ∧
        let z38 := FX3_handle (z3.2.1 w4 1) (z3.2.1 w4 2) (z3.2.1 w4 3) (z3.2.1 w4 4) z3.2
        (DX1_send (nI (2)) (z3.2.1 w4 1) (nI (50)) (z38.1) (nI (0)) z38.2) ∧
        let z41 := FX1_send (nI (2)) (z3.2.1 w4 1) (nI (50)) (z38.1) (nI (0)) z38.2
        True) ∧
      ((z3.2.1 w4 2) = 22 →
        (DX3_goOn (w4 + 1) z3.2) ∧
        let z44 := FX3_goOn (w4 + 1) z3.2
        True) ∧
      ((z3.2.1 w4 2) = 30 →
        (DX7_copyAll (z3.2.1 w4 3) (z3.2.1 w4 4) z3.2) ∧
        let z47 := FX7_copyAll (z3.2.1 w4 3) (z3.2.1 w4 4) z3.2
        (DX1_send (nI (2)) (nI (3)) (nI (32)) (nI (0)) (nI (0)) z47) ∧
        let z50 := FX1_send (nI (2)) (nI (3)) (nI (32)) (nI (0)) (nI (0)) z47
        True) ∧
      ((z3.2.1 w4 2) = 31 →
        (DX7_closeAll (z3.2.1 w4 3) z3.2) ∧
        let z53 := FX7_closeAll (z3.2.1 w4 3) z3.2
        (DX1_send (nI (2)) (nI (3)) (nI (32)) (nI (0)) (nI (0)) z53) ∧
        let z56 := FX1_send (nI (2)) (nI (3)) (nI (32)) (nI (0)) (nI (0)) z53
        True) ∧
      ((z3.2.1 w4 2) = 42 →
        (DX3_hearOfLife (z3.2.1 w4 3) z3.2) ∧
        let z59 := FX3_hearOfLife (z3.2.1 w4 3) z3.2
        True) ∧
      ((∀ c ∈ ([(1, 220), (2, 382), (3, 270), (4, 286), (5, 382), (6, 247), (7, 382), (22, 306), (30, 330), (31, 358), (42, 318)] : List (Int32 × Nat)), ¬ (z3.2.1 w4 2) = c.1) →
        True))) ∧
  (¬ ((x.1 347 2) = 0) →
    (DX0_firstFor 63 (nI (3)) x) ∧
    (DX0_take 63 (FX0_firstFor 63 (nI (3)) x) x) ∧
    let z64 := FX0_take 63 (FX0_firstFor 63 (nI (3)) x) x
    (z64.1 = none →
      True) ∧
    (∀ w65 : Nat, z64.1 = some w65 →
      (isX w65 6) ∧
      ((z64.2.1 w65 2) = 1 →
        (DX3_openFile (z64.2.1 w65 1) (z64.2.1 w65 3) z64.2) ∧
        let z69 := FX3_openFile (z64.2.1 w65 1) (z64.2.1 w65 3) z64.2
        (DX1_send (nI (2)) (z64.2.1 w65 1) (nI (50)) (z69.1) (nI (0)) z69.2) ∧
        let z72 := FX1_send (nI (2)) (z64.2.1 w65 1) (nI (50)) (z69.1) (nI (0)) z69.2
        True) ∧
      ((z64.2.1 w65 2) = 2 →
        (DX3_handle (z64.2.1 w65 1) (z64.2.1 w65 2) (z64.2.1 w65 3) (z64.2.1 w65 4) z64.2) ∧
        let z75 := FX3_handle (z64.2.1 w65 1) (z64.2.1 w65 2) (z64.2.1 w65 3) (z64.2.1 w65 4) z64.2
        (DX1_send (nI (2)) (z64.2.1 w65 1) (nI (50)) (z75.1) (nI (0)) z75.2) ∧
        let z78 := FX1_send (nI (2)) (z64.2.1 w65 1) (nI (50)) (z75.1) (nI (0)) z75.2
        True) ∧
      ((z64.2.1 w65 2) = 3 →
        (DX3_read (z64.2.1 w65 1) (z64.2.1 w65 3) z64.2) ∧
        let z81 := FX3_read (z64.2.1 w65 1) (z64.2.1 w65 3) z64.2
        True) ∧
      ((z64.2.1 w65 2) = 4 →
        (DX3_write (z64.2.1 w65 1) (z64.2.1 w65 3) (z64.2.1 w65 4) z64.2) ∧
        let z84 := FX3_write (z64.2.1 w65 1) (z64.2.1 w65 3) (z64.2.1 w65 4) z64.2
        True) ∧
      ((z64.2.1 w65 2) = 5 →
        (DX3_handle (z64.2.1 w65 1) (z64.2.1 w65 2) (z64.2.1 w65 3) (z64.2.1 w65 4) z64.2) ∧
        let z87 := FX3_handle (z64.2.1 w65 1) (z64.2.1 w65 2) (z64.2.1 w65 3) (z64.2.1 w65 4) z64.2
        (DX1_send (nI (2)) (z64.2.1 w65 1) (nI (50)) (z87.1) (nI (0)) z87.2) ∧
        let z90 := FX1_send (nI (2)) (z64.2.1 w65 1) (nI (50)) (z87.1) (nI (0)) z87.2
        True) ∧
      ((z64.2.1 w65 2) = 6 →
        (DX3_removeFile (z64.2.1 w65 3) z64.2) ∧
        let z93 := FX3_removeFile (z64.2.1 w65 3) z64.2
        (DX1_send (nI (2)) (z64.2.1 w65 1) (nI (50)) (z93.1) (nI (0)) z93.2) ∧
        let z96 := FX1_send (nI (2)) (z64.2.1 w65 1) (nI (50)) (z93.1) (nI (0)) z93.2
        True) ∧
      ((z64.2.1 w65 2) = 7 →
        (DX3_handle (z64.2.1 w65 1) (z64.2.1 w65 2) (z64.2.1 w65 3) (z64.2.1 w65 4) z64.2) ∧
        let z99 := FX3_handle (z64.2.1 w65 1) (z64.2.1 w65 2) (z64.2.1 w65 3) (z64.2.1 w65 4) z64.2
        (DX1_send (nI (2)) (z64.2.1 w65 1) (nI (50)) (z99.1) (nI (0)) z99.2) ∧
        let z102 := FX1_send (nI (2)) (z64.2.1 w65 1) (nI (50)) (z99.1) (nI (0)) z99.2
        True) ∧
      ((z64.2.1 w65 2) = 22 →
        (DX3_goOn (w65 + 1) z64.2) ∧
        let z105 := FX3_goOn (w65 + 1) z64.2
        True) ∧
      ((z64.2.1 w65 2) = 30 →
        (DX7_copyAll (z64.2.1 w65 3) (z64.2.1 w65 4) z64.2) ∧
        let z108 := FX7_copyAll (z64.2.1 w65 3) (z64.2.1 w65 4) z64.2
        (DX1_send (nI (2)) (nI (3)) (nI (32)) (nI (0)) (nI (0)) z108) ∧
        let z111 := FX1_send (nI (2)) (nI (3)) (nI (32)) (nI (0)) (nI (0)) z108
        True) ∧
      ((z64.2.1 w65 2) = 31 →
        (DX7_closeAll (z64.2.1 w65 3) z64.2) ∧
        let z114 := FX7_closeAll (z64.2.1 w65 3) z64.2
        (DX1_send (nI (2)) (nI (3)) (nI (32)) (nI (0)) (nI (0)) z114) ∧
        let z117 := FX1_send (nI (2)) (nI (3)) (nI (32)) (nI (0)) (nI (0)) z114
        True) ∧
      ((z64.2.1 w65 2) = 42 →
        (DX3_hearOfLife (z64.2.1 w65 3) z64.2) ∧
        let z120 := FX3_hearOfLife (z64.2.1 w65 3) z64.2
        True) ∧
      ((∀ c ∈ ([(1, 220), (2, 382), (3, 270), (4, 286), (5, 382), (6, 247), (7, 382), (22, 306), (30, 330), (31, 358), (42, 318)] : List (Int32 × Nat)), ¬ (z64.2.1 w65 2) = c.1) →
        True)))
set_option maxRecDepth 100000 in
set_option maxHeartbeats 4000000 in
theorem c_X3_takeTurn {tt : Prop}  (x : xD) (hD : DX3_takeTurn  x) : ab_Met mX3_takeTurn 4 0 0 tt [.ref (347 : Nat), .ref (1 : Nat)] (sX x) (xQv (FX3_takeTurn  x)) := by
  refine ab_Met.of rfl (Nat.le_of_ble_eq_true rfl) ?_
  show xV mX3_takeTurn 4 tt (xQv (FX3_takeTurn  x)) 0 [some (.ref (347 : Nat)), some (.ref (1 : Nat)), none, none] [] x
  refine ab_aload_n (pc := 0) dX3_takeTurn_0 rfl rfl ?_
  refine xo_gr (pc := 1) (a := (2 : Nat)) dX3_takeTurn_1 fl_X3_33 (by decide) rfl rfl ?_
  refine ab_iconst (pc := 4) (v := nI 2) dX3_takeTurn_4 (by decide) ?_
  refine xo_ald (pc := 5) dX3_takeTurn_5 (by decide) (Or.inr rfl) rfl (by decide) (crX_box (by decide)) ?_
  refine ab_top (w := .ref (63 : Nat)) rfl ?_
  refine ab_astore_n (pc := 6) dX3_takeTurn_6 rfl (Nat.le_of_ble_eq_true rfl) rfl ?_
  refine ab_aload_n (pc := 7) dX3_takeTurn_7 rfl rfl ?_
  refine ab_aload_n (pc := 8) dX3_takeTurn_8 rfl rfl ?_
  refine xo_gi (pc := 9) dX3_takeTurn_9 fl_X3_39 (by decide) rfl ?_
  refine ab_if_eq (pc := 12) (tgt := 23) dX3_takeTurn_12 (by decide) (fun c_12 => ?_) (fun c_12 => ?_)
  · replace hD := hD.1 c_12
    refine ab_iconst (pc := 23) (v := nI 0) dX3_takeTurn_23 (by decide) ?_
    obtain ⟨o1, hD⟩ := hD
    have e2 := c_X0_take (tt := tt) _ _ _ o1
    refine xo_invo (N := mX0_take) (pc := 24) (d' := 0) (av := [_]) dX3_takeTurn_24 ml_X3_49 fv_X0_take (by decide) (Nat.le_of_ble_eq_true rfl) (by decide) e2 (fun c_24 => ?_) (fun w4 c_24 => ?_)
    · refine ab_astore_nN (pc := 27) dX3_takeTurn_27 rfl (Nat.le_of_ble_eq_true rfl) rfl ?_
      refine ab_aload_nN (pc := 28) dX3_takeTurn_28 rfl rfl ?_
      refine ab_ifnonnullN (pc := 29) dX3_takeTurn_29 ?_
      refine xo_vr (pc := 32) dX3_takeTurn_32 rfl ?_
      (rw [FX3_takeTurn]; (first | rw [if_pos c_12] | (dsimp only; rw [if_pos c_12])); (first | rw [ab_o_n c_24] | (dsimp only; rw [ab_o_n c_24])); (first | done | rfl | (dsimp only; done)))
    · replace hD := hD.2 w4 c_24
      refine ab_astore_n (pc := 27) dX3_takeTurn_27 rfl (Nat.le_of_ble_eq_true rfl) rfl ?_
      refine ab_aload_n (pc := 28) dX3_takeTurn_28 rfl rfl ?_
      refine ab_ifnonnull (pc := 29) (tgt := 33) dX3_takeTurn_29 (by decide) ?_
      refine ab_aload_n (pc := 33) dX3_takeTurn_33 rfl rfl ?_
      obtain ⟨o5, hD⟩ := hD
      refine xo_gi (pc := 34) dX3_takeTurn_34 fl_X3_53 o5 rfl ?_
      refine ab_tsw (pc := 37) [(1, 220), (2, 382), (3, 270), (4, 286), (5, 382), (6, 247), (7, 382), (22, 306), (30, 330), (31, 358), (42, 318)] 417 dX3_takeTurn_37 (by decide +kernel) (ab_c1 (fun c_37 => ?_) (ab_c1 (fun c_37 => ?_) (ab_c1 (fun c_37 => ?_) (ab_c1 (fun c_37 => ?_) (ab_c1 (fun c_37 => ?_) (ab_c1 (fun c_37 => ?_) (ab_c1 (fun c_37 => ?_) (ab_c1 (fun c_37 => ?_) (ab_c1 (fun c_37 => ?_) (ab_c1 (fun c_37 => ?_) (ab_c1 (fun c_37 => ?_) (ab_c0)))))))))))) (fun c_37 => ?_)
      · replace hD := hD.1 c_37
        refine ab_aload_n (pc := 220) dX3_takeTurn_220 rfl rfl ?_
        refine ab_iconst (pc := 221) (v := nI 2) dX3_takeTurn_221 (by decide) ?_
        refine ab_aload_n (pc := 222) dX3_takeTurn_222 rfl rfl ?_
        refine xo_gi (pc := 223) dX3_takeTurn_223 fl_X3_58 o5 rfl ?_
        refine ab_bipush (pc := 226) (v := nI 50) dX3_takeTurn_226 (by decide) ?_
        refine ab_aload_n (pc := 228) dX3_takeTurn_228 rfl rfl ?_
        refine ab_aload_n (pc := 229) dX3_takeTurn_229 rfl rfl ?_
        refine xo_gi (pc := 230) dX3_takeTurn_230 fl_X3_58 o5 rfl ?_
        refine ab_aload_n (pc := 233) dX3_takeTurn_233 rfl rfl ?_
        refine xo_gi (pc := 234) dX3_takeTurn_234 fl_X3_61 o5 rfl ?_
        obtain ⟨o6, hD⟩ := hD
        have e7 := c_X3_openFile (tt := tt) _ _ _ o6
        refine xo_invi (N := mX3_openFile) (pc := 237) (d' := 3) (av := [_, _]) dX3_takeTurn_237 ml_X3_64 fv_X3_openFile (by decide) (Nat.le_of_ble_eq_true rfl) (by decide) e7 ?_
        refine ab_iconst (pc := 240) (v := nI 0) dX3_takeTurn_240 (by decide) ?_
        obtain ⟨o9, hD⟩ := hD
        have e10 := c_X1_send (tt := tt) _ _ _ _ _ _ o9
        refine xo_invv (N := mX1_send) (pc := 241) (d' := 2) (av := [_, _, _, _, _]) dX3_takeTurn_241 ml_X3_68 fv_X1_send (by decide) (Nat.le_of_ble_eq_true rfl) (by decide) e10 ?_
        refine ab_goto (pc := 244) (tgt := 417) dX3_takeTurn_244 (by decide) ?_
        refine xo_vr (pc := 417) dX3_takeTurn_417 rfl ?_
        (rw [FX3_takeTurn]; (first | rw [if_pos c_12] | (dsimp only; rw [if_pos c_12])); (first | rw [ab_o_s c_24] | (dsimp only; rw [ab_o_s c_24])); (first | rw [if_pos c_37] | (dsimp only; rw [if_pos c_37])); (first | done | rfl | (dsimp only; done)))
      · replace hD := hD.2.1 c_37
        refine ab_aload_n (pc := 382) dX3_takeTurn_382 rfl rfl ?_
        refine ab_iconst (pc := 383) (v := nI 2) dX3_takeTurn_383 (by decide) ?_
        refine ab_aload_n (pc := 384) dX3_takeTurn_384 rfl rfl ?_
        refine xo_gi (pc := 385) dX3_takeTurn_385 fl_X3_58 o5 rfl ?_
        refine ab_bipush (pc := 388) (v := nI 50) dX3_takeTurn_388 (by decide) ?_
        refine ab_aload_n (pc := 390) dX3_takeTurn_390 rfl rfl ?_
        refine ab_aload_n (pc := 391) dX3_takeTurn_391 rfl rfl ?_
        refine xo_gi (pc := 392) dX3_takeTurn_392 fl_X3_58 o5 rfl ?_
        refine ab_aload_n (pc := 395) dX3_takeTurn_395 rfl rfl ?_
        refine xo_gi (pc := 396) dX3_takeTurn_396 fl_X3_53 o5 rfl ?_
        refine ab_aload_n (pc := 399) dX3_takeTurn_399 rfl rfl ?_
        refine xo_gi (pc := 400) dX3_takeTurn_400 fl_X3_61 o5 rfl ?_
        refine ab_aload_n (pc := 403) dX3_takeTurn_403 rfl rfl ?_
        refine xo_gi (pc := 404) dX3_takeTurn_404 fl_X3_79 o5 rfl ?_
        obtain ⟨o12, hD⟩ := hD
        have e13 := c_X3_handle (tt := tt) _ _ _ _ _ o12
        refine xo_invi (N := mX3_handle) (pc := 407) (d' := 3) (av := [_, _, _, _]) dX3_takeTurn_407 ml_X3_103 fv_X3_handle (by decide) (Nat.le_of_ble_eq_true rfl) (by decide) e13 ?_
        refine ab_iconst (pc := 410) (v := nI 0) dX3_takeTurn_410 (by decide) ?_
        obtain ⟨o15, hD⟩ := hD
        have e16 := c_X1_send (tt := tt) _ _ _ _ _ _ o15
        refine xo_invv (N := mX1_send) (pc := 411) (d' := 2) (av := [_, _, _, _, _]) dX3_takeTurn_411 ml_X3_68 fv_X1_send (by decide) (Nat.le_of_ble_eq_true rfl) (by decide) e16 ?_
        refine ab_goto (pc := 414) (tgt := 417) dX3_takeTurn_414 (by decide) ?_
        refine xo_vr (pc := 417) dX3_takeTurn_417 rfl ?_
        (rw [FX3_takeTurn]; (first | rw [if_pos c_12] | (dsimp only; rw [if_pos c_12])); (first | rw [ab_o_s c_24] | (dsimp only; rw [ab_o_s c_24])); (first | rw [if_neg (fun h => absurd (c_37.symm.trans h) (by decide))] | (dsimp only; rw [if_neg (fun h => absurd (c_37.symm.trans h) (by decide))])); (first | rw [if_pos c_37] | (dsimp only; rw [if_pos c_37])); (first | done | rfl | (dsimp only; done)))
      · replace hD := hD.2.2.1 c_37
        refine ab_aload_n (pc := 270) dX3_takeTurn_270 rfl rfl ?_
        refine ab_aload_n (pc := 271) dX3_takeTurn_271 rfl rfl ?_
        refine ab_aload_n (pc := 272) dX3_takeTurn_272 rfl rfl ?_
        refine xo_gi (pc := 273) dX3_takeTurn_273 fl_X3_58 o5 rfl ?_
        refine ab_aload_n (pc := 276) dX3_takeTurn_276 rfl rfl ?_
        refine xo_gi (pc := 277) dX3_takeTurn_277 fl_X3_61 o5 rfl ?_
        obtain ⟨o18, hD⟩ := hD
        have e19 := c_X3_read (tt := tt) _ _ _ o18
        refine xo_invv (N := mX3_read) (pc := 280) (d' := 3) (av := [_, _, _]) dX3_takeTurn_280 ml_X3_75 fv_X3_read (by decide) (Nat.le_of_ble_eq_true rfl) (by decide) e19 ?_
        refine ab_goto (pc := 283) (tgt := 417) dX3_takeTurn_283 (by decide) ?_
        refine xo_vr (pc := 417) dX3_takeTurn_417 rfl ?_
        (rw [FX3_takeTurn]; (first | rw [if_pos c_12] | (dsimp only; rw [if_pos c_12])); (first | rw [ab_o_s c_24] | (dsimp only; rw [ab_o_s c_24])); (first | rw [if_neg (fun h => absurd (c_37.symm.trans h) (by decide))] | (dsimp only; rw [if_neg (fun h => absurd (c_37.symm.trans h) (by decide))])); (first | rw [if_neg (fun h => absurd (c_37.symm.trans h) (by decide))] | (dsimp only; rw [if_neg (fun h => absurd (c_37.symm.trans h) (by decide))])); (first | rw [if_pos c_37] | (dsimp only; rw [if_pos c_37])); (first | done | rfl | (dsimp only; done)))
      · replace hD := hD.2.2.2.1 c_37
        refine ab_aload_n (pc := 286) dX3_takeTurn_286 rfl rfl ?_
        refine ab_aload_n (pc := 287) dX3_takeTurn_287 rfl rfl ?_
        refine ab_aload_n (pc := 288) dX3_takeTurn_288 rfl rfl ?_
        refine xo_gi (pc := 289) dX3_takeTurn_289 fl_X3_58 o5 rfl ?_
        refine ab_aload_n (pc := 292) dX3_takeTurn_292 rfl rfl ?_
        refine xo_gi (pc := 293) dX3_takeTurn_293 fl_X3_61 o5 rfl ?_
        refine ab_aload_n (pc := 296) dX3_takeTurn_296 rfl rfl ?_
        refine xo_gi (pc := 297) dX3_takeTurn_297 fl_X3_79 o5 rfl ?_
        obtain ⟨o21, hD⟩ := hD
        have e22 := c_X3_write (tt := tt) _ _ _ _ o21
        refine xo_invv (N := mX3_write) (pc := 300) (d' := 3) (av := [_, _, _, _]) dX3_takeTurn_300 ml_X3_82 fv_X3_write (by decide) (Nat.le_of_ble_eq_true rfl) (by decide) e22 ?_
        refine ab_goto (pc := 303) (tgt := 417) dX3_takeTurn_303 (by decide) ?_
        refine xo_vr (pc := 417) dX3_takeTurn_417 rfl ?_
        (rw [FX3_takeTurn]; (first | rw [if_pos c_12] | (dsimp only; rw [if_pos c_12])); (first | rw [ab_o_s c_24] | (dsimp only; rw [ab_o_s c_24])); (first | rw [if_neg (fun h => absurd (c_37.symm.trans h) (by decide))] | (dsimp only; rw [if_neg (fun h => absurd (c_37.symm.trans h) (by decide))])); (first | rw [if_neg (fun h => absurd (c_37.symm.trans h) (by decide))] | (dsimp only; rw [if_neg (fun h => absurd (c_37.symm.trans h) (by decide))])); (first | rw [if_neg (fun h => absurd (c_37.symm.trans h) (by decide))] | (dsimp only; rw [if_neg (fun h => absurd (c_37.symm.trans h) (by decide))])); (first | rw [if_pos c_37] | (dsimp only; rw [if_pos c_37])); (first | done | rfl | (dsimp only; done)))
      · replace hD := hD.2.2.2.2.1 c_37
        refine ab_aload_n (pc := 382) dX3_takeTurn_382 rfl rfl ?_
        refine ab_iconst (pc := 383) (v := nI 2) dX3_takeTurn_383 (by decide) ?_
        refine ab_aload_n (pc := 384) dX3_takeTurn_384 rfl rfl ?_
        refine xo_gi (pc := 385) dX3_takeTurn_385 fl_X3_58 o5 rfl ?_
        refine ab_bipush (pc := 388) (v := nI 50) dX3_takeTurn_388 (by decide) ?_
        refine ab_aload_n (pc := 390) dX3_takeTurn_390 rfl rfl ?_
        refine ab_aload_n (pc := 391) dX3_takeTurn_391 rfl rfl ?_
        refine xo_gi (pc := 392) dX3_takeTurn_392 fl_X3_58 o5 rfl ?_
        refine ab_aload_n (pc := 395) dX3_takeTurn_395 rfl rfl ?_
        refine xo_gi (pc := 396) dX3_takeTurn_396 fl_X3_53 o5 rfl ?_
        refine ab_aload_n (pc := 399) dX3_takeTurn_399 rfl rfl ?_
        refine xo_gi (pc := 400) dX3_takeTurn_400 fl_X3_61 o5 rfl ?_
        refine ab_aload_n (pc := 403) dX3_takeTurn_403 rfl rfl ?_
        refine xo_gi (pc := 404) dX3_takeTurn_404 fl_X3_79 o5 rfl ?_
        obtain ⟨o24, hD⟩ := hD
        have e25 := c_X3_handle (tt := tt) _ _ _ _ _ o24
        refine xo_invi (N := mX3_handle) (pc := 407) (d' := 3) (av := [_, _, _, _]) dX3_takeTurn_407 ml_X3_103 fv_X3_handle (by decide) (Nat.le_of_ble_eq_true rfl) (by decide) e25 ?_
        refine ab_iconst (pc := 410) (v := nI 0) dX3_takeTurn_410 (by decide) ?_
        obtain ⟨o27, hD⟩ := hD
        have e28 := c_X1_send (tt := tt) _ _ _ _ _ _ o27
        refine xo_invv (N := mX1_send) (pc := 411) (d' := 2) (av := [_, _, _, _, _]) dX3_takeTurn_411 ml_X3_68 fv_X1_send (by decide) (Nat.le_of_ble_eq_true rfl) (by decide) e28 ?_
        refine ab_goto (pc := 414) (tgt := 417) dX3_takeTurn_414 (by decide) ?_
        refine xo_vr (pc := 417) dX3_takeTurn_417 rfl ?_
        (rw [FX3_takeTurn]; (first | rw [if_pos c_12] | (dsimp only; rw [if_pos c_12])); (first | rw [ab_o_s c_24] | (dsimp only; rw [ab_o_s c_24])); (first | rw [if_neg (fun h => absurd (c_37.symm.trans h) (by decide))] | (dsimp only; rw [if_neg (fun h => absurd (c_37.symm.trans h) (by decide))])); (first | rw [if_neg (fun h => absurd (c_37.symm.trans h) (by decide))] | (dsimp only; rw [if_neg (fun h => absurd (c_37.symm.trans h) (by decide))])); (first | rw [if_neg (fun h => absurd (c_37.symm.trans h) (by decide))] | (dsimp only; rw [if_neg (fun h => absurd (c_37.symm.trans h) (by decide))])); (first | rw [if_neg (fun h => absurd (c_37.symm.trans h) (by decide))] | (dsimp only; rw [if_neg (fun h => absurd (c_37.symm.trans h) (by decide))])); (first | rw [if_pos c_37] | (dsimp only; rw [if_pos c_37])); (first | done | rfl | (dsimp only; done)))
      · replace hD := hD.2.2.2.2.2.1 c_37
        refine ab_aload_n (pc := 247) dX3_takeTurn_247 rfl rfl ?_
        refine ab_iconst (pc := 248) (v := nI 2) dX3_takeTurn_248 (by decide) ?_
        refine ab_aload_n (pc := 249) dX3_takeTurn_249 rfl rfl ?_
        refine xo_gi (pc := 250) dX3_takeTurn_250 fl_X3_58 o5 rfl ?_
        refine ab_bipush (pc := 253) (v := nI 50) dX3_takeTurn_253 (by decide) ?_
        refine ab_aload_n (pc := 255) dX3_takeTurn_255 rfl rfl ?_
        refine ab_aload_n (pc := 256) dX3_takeTurn_256 rfl rfl ?_
        refine xo_gi (pc := 257) dX3_takeTurn_257 fl_X3_61 o5 rfl ?_
        obtain ⟨o30, hD⟩ := hD
        have e31 := c_X3_removeFile (tt := tt) _ _ o30
        refine xo_invi (N := mX3_removeFile) (pc := 260) (d' := 2) (av := [_]) dX3_takeTurn_260 ml_X3_72 fv_X3_removeFile (by decide) (Nat.le_of_ble_eq_true rfl) (by decide) e31 ?_
        refine ab_iconst (pc := 263) (v := nI 0) dX3_takeTurn_263 (by decide) ?_
        obtain ⟨o33, hD⟩ := hD
        have e34 := c_X1_send (tt := tt) _ _ _ _ _ _ o33
        refine xo_invv (N := mX1_send) (pc := 264) (d' := 2) (av := [_, _, _, _, _]) dX3_takeTurn_264 ml_X3_68 fv_X1_send (by decide) (Nat.le_of_ble_eq_true rfl) (by decide) e34 ?_
        refine ab_goto (pc := 267) (tgt := 417) dX3_takeTurn_267 (by decide) ?_
        refine xo_vr (pc := 417) dX3_takeTurn_417 rfl ?_
        (rw [FX3_takeTurn]; (first | rw [if_pos c_12] | (dsimp only; rw [if_pos c_12])); (first | rw [ab_o_s c_24] | (dsimp only; rw [ab_o_s c_24])); (first | rw [if_neg (fun h => absurd (c_37.symm.trans h) (by decide))] | (dsimp only; rw [if_neg (fun h => absurd (c_37.symm.trans h) (by decide))])); (first | rw [if_neg (fun h => absurd (c_37.symm.trans h) (by decide))] | (dsimp only; rw [if_neg (fun h => absurd (c_37.symm.trans h) (by decide))])); (first | rw [if_neg (fun h => absurd (c_37.symm.trans h) (by decide))] | (dsimp only; rw [if_neg (fun h => absurd (c_37.symm.trans h) (by decide))])); (first | rw [if_neg (fun h => absurd (c_37.symm.trans h) (by decide))] | (dsimp only; rw [if_neg (fun h => absurd (c_37.symm.trans h) (by decide))])); (first | rw [if_neg (fun h => absurd (c_37.symm.trans h) (by decide))] | (dsimp only; rw [if_neg (fun h => absurd (c_37.symm.trans h) (by decide))])); (first | rw [if_pos c_37] | (dsimp only; rw [if_pos c_37])); (first | done | rfl | (dsimp only; done)))
      · replace hD := hD.2.2.2.2.2.2.1 c_37
        refine ab_aload_n (pc := 382) dX3_takeTurn_382 rfl rfl ?_
        refine ab_iconst (pc := 383) (v := nI 2) dX3_takeTurn_383 (by decide) ?_
        refine ab_aload_n (pc := 384) dX3_takeTurn_384 rfl rfl ?_
        refine xo_gi (pc := 385) dX3_takeTurn_385 fl_X3_58 o5 rfl ?_
        refine ab_bipush (pc := 388) (v := nI 50) dX3_takeTurn_388 (by decide) ?_
        refine ab_aload_n (pc := 390) dX3_takeTurn_390 rfl rfl ?_
        refine ab_aload_n (pc := 391) dX3_takeTurn_391 rfl rfl ?_
        refine xo_gi (pc := 392) dX3_takeTurn_392 fl_X3_58 o5 rfl ?_
        refine ab_aload_n (pc := 395) dX3_takeTurn_395 rfl rfl ?_
        refine xo_gi (pc := 396) dX3_takeTurn_396 fl_X3_53 o5 rfl ?_
        refine ab_aload_n (pc := 399) dX3_takeTurn_399 rfl rfl ?_
        refine xo_gi (pc := 400) dX3_takeTurn_400 fl_X3_61 o5 rfl ?_
        refine ab_aload_n (pc := 403) dX3_takeTurn_403 rfl rfl ?_
        refine xo_gi (pc := 404) dX3_takeTurn_404 fl_X3_79 o5 rfl ?_
        obtain ⟨o36, hD⟩ := hD
        have e37 := c_X3_handle (tt := tt) _ _ _ _ _ o36
        refine xo_invi (N := mX3_handle) (pc := 407) (d' := 3) (av := [_, _, _, _]) dX3_takeTurn_407 ml_X3_103 fv_X3_handle (by decide) (Nat.le_of_ble_eq_true rfl) (by decide) e37 ?_
        refine ab_iconst (pc := 410) (v := nI 0) dX3_takeTurn_410 (by decide) ?_
        obtain ⟨o39, hD⟩ := hD
        have e40 := c_X1_send (tt := tt) _ _ _ _ _ _ o39
        refine xo_invv (N := mX1_send) (pc := 411) (d' := 2) (av := [_, _, _, _, _]) dX3_takeTurn_411 ml_X3_68 fv_X1_send (by decide) (Nat.le_of_ble_eq_true rfl) (by decide) e40 ?_
        refine ab_goto (pc := 414) (tgt := 417) dX3_takeTurn_414 (by decide) ?_
        refine xo_vr (pc := 417) dX3_takeTurn_417 rfl ?_
        (rw [FX3_takeTurn]; (first | rw [if_pos c_12] | (dsimp only; rw [if_pos c_12])); (first | rw [ab_o_s c_24] | (dsimp only; rw [ab_o_s c_24])); (first | rw [if_neg (fun h => absurd (c_37.symm.trans h) (by decide))] | (dsimp only; rw [if_neg (fun h => absurd (c_37.symm.trans h) (by decide))])); (first | rw [if_neg (fun h => absurd (c_37.symm.trans h) (by decide))] | (dsimp only; rw [if_neg (fun h => absurd (c_37.symm.trans h) (by decide))])); (first | rw [if_neg (fun h => absurd (c_37.symm.trans h) (by decide))] | (dsimp only; rw [if_neg (fun h => absurd (c_37.symm.trans h) (by decide))])); (first | rw [if_neg (fun h => absurd (c_37.symm.trans h) (by decide))] | (dsimp only; rw [if_neg (fun h => absurd (c_37.symm.trans h) (by decide))])); (first | rw [if_neg (fun h => absurd (c_37.symm.trans h) (by decide))] | (dsimp only; rw [if_neg (fun h => absurd (c_37.symm.trans h) (by decide))])); (first | rw [if_neg (fun h => absurd (c_37.symm.trans h) (by decide))] | (dsimp only; rw [if_neg (fun h => absurd (c_37.symm.trans h) (by decide))])); (first | rw [if_pos c_37] | (dsimp only; rw [if_pos c_37])); (first | done | rfl | (dsimp only; done)))
      · replace hD := hD.2.2.2.2.2.2.2.1 c_37
        refine ab_aload_n (pc := 306) dX3_takeTurn_306 rfl rfl ?_
        refine ab_aload_n (pc := 307) dX3_takeTurn_307 rfl rfl ?_
        refine ab_aload_n (pc := 308) dX3_takeTurn_308 rfl rfl ?_
        refine xo_gr (pc := 309) dX3_takeTurn_309 fl_X3_86 o5 rfl (crX_num o5) ?_
        obtain ⟨o42, hD⟩ := hD
        have e43 := c_X3_goOn (tt := tt) _ _ o42
        refine xo_invv (N := mX3_goOn) (pc := 312) (d' := 3) (av := [_, _]) dX3_takeTurn_312 ml_X3_87 fv_X3_goOn (by decide) (Nat.le_of_ble_eq_true rfl) (by decide) e43 ?_
        refine ab_goto (pc := 315) (tgt := 417) dX3_takeTurn_315 (by decide) ?_
        refine xo_vr (pc := 417) dX3_takeTurn_417 rfl ?_
        (rw [FX3_takeTurn]; (first | rw [if_pos c_12] | (dsimp only; rw [if_pos c_12])); (first | rw [ab_o_s c_24] | (dsimp only; rw [ab_o_s c_24])); (first | rw [if_neg (fun h => absurd (c_37.symm.trans h) (by decide))] | (dsimp only; rw [if_neg (fun h => absurd (c_37.symm.trans h) (by decide))])); (first | rw [if_neg (fun h => absurd (c_37.symm.trans h) (by decide))] | (dsimp only; rw [if_neg (fun h => absurd (c_37.symm.trans h) (by decide))])); (first | rw [if_neg (fun h => absurd (c_37.symm.trans h) (by decide))] | (dsimp only; rw [if_neg (fun h => absurd (c_37.symm.trans h) (by decide))])); (first | rw [if_neg (fun h => absurd (c_37.symm.trans h) (by decide))] | (dsimp only; rw [if_neg (fun h => absurd (c_37.symm.trans h) (by decide))])); (first | rw [if_neg (fun h => absurd (c_37.symm.trans h) (by decide))] | (dsimp only; rw [if_neg (fun h => absurd (c_37.symm.trans h) (by decide))])); (first | rw [if_neg (fun h => absurd (c_37.symm.trans h) (by decide))] | (dsimp only; rw [if_neg (fun h => absurd (c_37.symm.trans h) (by decide))])); (first | rw [if_neg (fun h => absurd (c_37.symm.trans h) (by decide))] | (dsimp only; rw [if_neg (fun h => absurd (c_37.symm.trans h) (by decide))])); (first | rw [if_pos c_37] | (dsimp only; rw [if_pos c_37])); (first | done | rfl | (dsimp only; done)))
      · replace hD := hD.2.2.2.2.2.2.2.2.1 c_37
        refine ab_aload_n (pc := 330) dX3_takeTurn_330 rfl rfl ?_
        refine xo_gr (pc := 331) (a := (353 : Nat)) dX3_takeTurn_331 fl_X3_21 (by decide) rfl rfl ?_
        refine ab_aload_n (pc := 334) dX3_takeTurn_334 rfl rfl ?_
        refine xo_gi (pc := 335) dX3_takeTurn_335 fl_X3_61 o5 rfl ?_
        refine ab_aload_n (pc := 338) dX3_takeTurn_338 rfl rfl ?_
        refine xo_gi (pc := 339) dX3_takeTurn_339 fl_X3_79 o5 rfl ?_
        obtain ⟨o45, hD⟩ := hD
        have e46 := c_X7_copyAll (tt := tt) _ _ _ o45
        refine xo_invv (N := mX7_copyAll) (pc := 342) (d' := 3) (av := [_, _]) dX3_takeTurn_342 ml_X3_95 fv_X7_copyAll (by decide) (Nat.le_of_ble_eq_true rfl) (by decide) e46 ?_
        refine ab_aload_n (pc := 345) dX3_takeTurn_345 rfl rfl ?_
        refine ab_iconst (pc := 346) (v := nI 2) dX3_takeTurn_346 (by decide) ?_
        refine ab_iconst (pc := 347) (v := nI 3) dX3_takeTurn_347 (by decide) ?_
        refine ab_bipush (pc := 348) (v := nI 32) dX3_takeTurn_348 (by decide) ?_
        refine ab_iconst (pc := 350) (v := nI 0) dX3_takeTurn_350 (by decide) ?_
        refine ab_iconst (pc := 351) (v := nI 0) dX3_takeTurn_351 (by decide) ?_
        obtain ⟨o48, hD⟩ := hD
        have e49 := c_X1_send (tt := tt) _ _ _ _ _ _ o48
        refine xo_invv (N := mX1_send) (pc := 352) (d' := 2) (av := [_, _, _, _, _]) dX3_takeTurn_352 ml_X3_68 fv_X1_send (by decide) (Nat.le_of_ble_eq_true rfl) (by decide) e49 ?_
        refine ab_goto (pc := 355) (tgt := 417) dX3_takeTurn_355 (by decide) ?_
        refine xo_vr (pc := 417) dX3_takeTurn_417 rfl ?_
        (rw [FX3_takeTurn]; (first | rw [if_pos c_12] | (dsimp only; rw [if_pos c_12])); (first | rw [ab_o_s c_24] | (dsimp only; rw [ab_o_s c_24])); (first | rw [if_neg (fun h => absurd (c_37.symm.trans h) (by decide))] | (dsimp only; rw [if_neg (fun h => absurd (c_37.symm.trans h) (by decide))])); (first | rw [if_neg (fun h => absurd (c_37.symm.trans h) (by decide))] | (dsimp only; rw [if_neg (fun h => absurd (c_37.symm.trans h) (by decide))])); (first | rw [if_neg (fun h => absurd (c_37.symm.trans h) (by decide))] | (dsimp only; rw [if_neg (fun h => absurd (c_37.symm.trans h) (by decide))])); (first | rw [if_neg (fun h => absurd (c_37.symm.trans h) (by decide))] | (dsimp only; rw [if_neg (fun h => absurd (c_37.symm.trans h) (by decide))])); (first | rw [if_neg (fun h => absurd (c_37.symm.trans h) (by decide))] | (dsimp only; rw [if_neg (fun h => absurd (c_37.symm.trans h) (by decide))])); (first | rw [if_neg (fun h => absurd (c_37.symm.trans h) (by decide))] | (dsimp only; rw [if_neg (fun h => absurd (c_37.symm.trans h) (by decide))])); (first | rw [if_neg (fun h => absurd (c_37.symm.trans h) (by decide))] | (dsimp only; rw [if_neg (fun h => absurd (c_37.symm.trans h) (by decide))])); (first | rw [if_neg (fun h => absurd (c_37.symm.trans h) (by decide))] | (dsimp only; rw [if_neg (fun h => absurd (c_37.symm.trans h) (by decide))])); (first | rw [if_pos c_37] | (dsimp only; rw [if_pos c_37])); (first | done | rfl | (dsimp only; done)))
      · replace hD := hD.2.2.2.2.2.2.2.2.2.1 c_37
        refine ab_aload_n (pc := 358) dX3_takeTurn_358 rfl rfl ?_
        refine xo_gr (pc := 359) (a := (353 : Nat)) dX3_takeTurn_359 fl_X3_21 (by decide) rfl rfl ?_
        refine ab_aload_n (pc := 362) dX3_takeTurn_362 rfl rfl ?_
        refine xo_gi (pc := 363) dX3_takeTurn_363 fl_X3_61 o5 rfl ?_
        obtain ⟨o51, hD⟩ := hD
        have e52 := c_X7_closeAll (tt := tt) _ _ o51
        refine xo_invv (N := mX7_closeAll) (pc := 366) (d' := 2) (av := [_]) dX3_takeTurn_366 ml_X3_99 fv_X7_closeAll (by decide) (Nat.le_of_ble_eq_true rfl) (by decide) e52 ?_
        refine ab_aload_n (pc := 369) dX3_takeTurn_369 rfl rfl ?_
        refine ab_iconst (pc := 370) (v := nI 2) dX3_takeTurn_370 (by decide) ?_
        refine ab_iconst (pc := 371) (v := nI 3) dX3_takeTurn_371 (by decide) ?_
        refine ab_bipush (pc := 372) (v := nI 32) dX3_takeTurn_372 (by decide) ?_
        refine ab_iconst (pc := 374) (v := nI 0) dX3_takeTurn_374 (by decide) ?_
        refine ab_iconst (pc := 375) (v := nI 0) dX3_takeTurn_375 (by decide) ?_
        obtain ⟨o54, hD⟩ := hD
        have e55 := c_X1_send (tt := tt) _ _ _ _ _ _ o54
        refine xo_invv (N := mX1_send) (pc := 376) (d' := 2) (av := [_, _, _, _, _]) dX3_takeTurn_376 ml_X3_68 fv_X1_send (by decide) (Nat.le_of_ble_eq_true rfl) (by decide) e55 ?_
        refine ab_goto (pc := 379) (tgt := 417) dX3_takeTurn_379 (by decide) ?_
        refine xo_vr (pc := 417) dX3_takeTurn_417 rfl ?_
        (rw [FX3_takeTurn]; (first | rw [if_pos c_12] | (dsimp only; rw [if_pos c_12])); (first | rw [ab_o_s c_24] | (dsimp only; rw [ab_o_s c_24])); (first | rw [if_neg (fun h => absurd (c_37.symm.trans h) (by decide))] | (dsimp only; rw [if_neg (fun h => absurd (c_37.symm.trans h) (by decide))])); (first | rw [if_neg (fun h => absurd (c_37.symm.trans h) (by decide))] | (dsimp only; rw [if_neg (fun h => absurd (c_37.symm.trans h) (by decide))])); (first | rw [if_neg (fun h => absurd (c_37.symm.trans h) (by decide))] | (dsimp only; rw [if_neg (fun h => absurd (c_37.symm.trans h) (by decide))])); (first | rw [if_neg (fun h => absurd (c_37.symm.trans h) (by decide))] | (dsimp only; rw [if_neg (fun h => absurd (c_37.symm.trans h) (by decide))])); (first | rw [if_neg (fun h => absurd (c_37.symm.trans h) (by decide))] | (dsimp only; rw [if_neg (fun h => absurd (c_37.symm.trans h) (by decide))])); (first | rw [if_neg (fun h => absurd (c_37.symm.trans h) (by decide))] | (dsimp only; rw [if_neg (fun h => absurd (c_37.symm.trans h) (by decide))])); (first | rw [if_neg (fun h => absurd (c_37.symm.trans h) (by decide))] | (dsimp only; rw [if_neg (fun h => absurd (c_37.symm.trans h) (by decide))])); (first | rw [if_neg (fun h => absurd (c_37.symm.trans h) (by decide))] | (dsimp only; rw [if_neg (fun h => absurd (c_37.symm.trans h) (by decide))])); (first | rw [if_neg (fun h => absurd (c_37.symm.trans h) (by decide))] | (dsimp only; rw [if_neg (fun h => absurd (c_37.symm.trans h) (by decide))])); (first | rw [if_pos c_37] | (dsimp only; rw [if_pos c_37])); (first | done | rfl | (dsimp only; done)))
      · replace hD := hD.2.2.2.2.2.2.2.2.2.2.1 c_37
        refine ab_aload_n (pc := 318) dX3_takeTurn_318 rfl rfl ?_
        refine ab_aload_n (pc := 319) dX3_takeTurn_319 rfl rfl ?_
        refine ab_aload_n (pc := 320) dX3_takeTurn_320 rfl rfl ?_
        refine xo_gi (pc := 321) dX3_takeTurn_321 fl_X3_61 o5 rfl ?_
        obtain ⟨o57, hD⟩ := hD
        have e58 := c_X3_hearOfLife (tt := tt) _ _ o57
        refine xo_invv (N := mX3_hearOfLife) (pc := 324) (d' := 3) (av := [_, _]) dX3_takeTurn_324 ml_X3_91 fv_X3_hearOfLife (by decide) (Nat.le_of_ble_eq_true rfl) (by decide) e58 ?_
        refine ab_goto (pc := 327) (tgt := 417) dX3_takeTurn_327 (by decide) ?_
        refine xo_vr (pc := 417) dX3_takeTurn_417 rfl ?_
        (rw [FX3_takeTurn]; (first | rw [if_pos c_12] | (dsimp only; rw [if_pos c_12])); (first | rw [ab_o_s c_24] | (dsimp only; rw [ab_o_s c_24])); (first | rw [if_neg (fun h => absurd (c_37.symm.trans h) (by decide))] | (dsimp only; rw [if_neg (fun h => absurd (c_37.symm.trans h) (by decide))])); (first | rw [if_neg (fun h => absurd (c_37.symm.trans h) (by decide))] | (dsimp only; rw [if_neg (fun h => absurd (c_37.symm.trans h) (by decide))])); (first | rw [if_neg (fun h => absurd (c_37.symm.trans h) (by decide))] | (dsimp only; rw [if_neg (fun h => absurd (c_37.symm.trans h) (by decide))])); (first | rw [if_neg (fun h => absurd (c_37.symm.trans h) (by decide))] | (dsimp only; rw [if_neg (fun h => absurd (c_37.symm.trans h) (by decide))])); (first | rw [if_neg (fun h => absurd (c_37.symm.trans h) (by decide))] | (dsimp only; rw [if_neg (fun h => absurd (c_37.symm.trans h) (by decide))])); (first | rw [if_neg (fun h => absurd (c_37.symm.trans h) (by decide))] | (dsimp only; rw [if_neg (fun h => absurd (c_37.symm.trans h) (by decide))])); (first | rw [if_neg (fun h => absurd (c_37.symm.trans h) (by decide))] | (dsimp only; rw [if_neg (fun h => absurd (c_37.symm.trans h) (by decide))])); (first | rw [if_neg (fun h => absurd (c_37.symm.trans h) (by decide))] | (dsimp only; rw [if_neg (fun h => absurd (c_37.symm.trans h) (by decide))])); (first | rw [if_neg (fun h => absurd (c_37.symm.trans h) (by decide))] | (dsimp only; rw [if_neg (fun h => absurd (c_37.symm.trans h) (by decide))])); (first | rw [if_neg (fun h => absurd (c_37.symm.trans h) (by decide))] | (dsimp only; rw [if_neg (fun h => absurd (c_37.symm.trans h) (by decide))])); (first | rw [if_pos c_37] | (dsimp only; rw [if_pos c_37])); (first | done | rfl | (dsimp only; done)))
      · refine xo_vr (pc := 417) dX3_takeTurn_417 rfl ?_
        (rw [FX3_takeTurn]; (first | rw [if_pos c_12] | (dsimp only; rw [if_pos c_12])); (first | rw [ab_o_s c_24] | (dsimp only; rw [ab_o_s c_24])); (first | rw [if_neg (c_37 _ (List.mem_of_getElem? (i := 0) rfl))] | (dsimp only; rw [if_neg (c_37 _ (List.mem_of_getElem? (i := 0) rfl))])); (first | rw [if_neg (c_37 _ (List.mem_of_getElem? (i := 1) rfl))] | (dsimp only; rw [if_neg (c_37 _ (List.mem_of_getElem? (i := 1) rfl))])); (first | rw [if_neg (c_37 _ (List.mem_of_getElem? (i := 2) rfl))] | (dsimp only; rw [if_neg (c_37 _ (List.mem_of_getElem? (i := 2) rfl))])); (first | rw [if_neg (c_37 _ (List.mem_of_getElem? (i := 3) rfl))] | (dsimp only; rw [if_neg (c_37 _ (List.mem_of_getElem? (i := 3) rfl))])); (first | rw [if_neg (c_37 _ (List.mem_of_getElem? (i := 4) rfl))] | (dsimp only; rw [if_neg (c_37 _ (List.mem_of_getElem? (i := 4) rfl))])); (first | rw [if_neg (c_37 _ (List.mem_of_getElem? (i := 5) rfl))] | (dsimp only; rw [if_neg (c_37 _ (List.mem_of_getElem? (i := 5) rfl))])); (first | rw [if_neg (c_37 _ (List.mem_of_getElem? (i := 6) rfl))] | (dsimp only; rw [if_neg (c_37 _ (List.mem_of_getElem? (i := 6) rfl))])); (first | rw [if_neg (c_37 _ (List.mem_of_getElem? (i := 7) rfl))] | (dsimp only; rw [if_neg (c_37 _ (List.mem_of_getElem? (i := 7) rfl))])); (first | rw [if_neg (c_37 _ (List.mem_of_getElem? (i := 8) rfl))] | (dsimp only; rw [if_neg (c_37 _ (List.mem_of_getElem? (i := 8) rfl))])); (first | rw [if_neg (c_37 _ (List.mem_of_getElem? (i := 9) rfl))] | (dsimp only; rw [if_neg (c_37 _ (List.mem_of_getElem? (i := 9) rfl))])); (first | rw [if_neg (c_37 _ (List.mem_of_getElem? (i := 10) rfl))] | (dsimp only; rw [if_neg (c_37 _ (List.mem_of_getElem? (i := 10) rfl))])); (first | done | rfl | (dsimp only; done)))
  · replace hD := hD.2 c_12
    refine ab_aload_n (pc := 15) dX3_takeTurn_15 rfl rfl ?_
    refine ab_iconst (pc := 16) (v := nI 3) dX3_takeTurn_16 (by decide) ?_
    obtain ⟨o60, hD⟩ := hD
    have e61 := c_X0_firstFor (tt := tt) _ _ _ o60
    refine xo_invr (N := mX0_firstFor) (pc := 17) (d' := 0) (av := [_]) dX3_takeTurn_17 ml_X3_43 fv_X0_firstFor (by decide) (Nat.le_of_ble_eq_true rfl) (by decide) e61 ?_
    refine ab_goto (pc := 20) (tgt := 24) dX3_takeTurn_20 (by decide) ?_
    obtain ⟨o62, hD⟩ := hD
    have e63 := c_X0_take (tt := tt) _ _ _ o62
    refine xo_invo (N := mX0_take) (pc := 24) (d' := 0) (av := [_]) dX3_takeTurn_24 ml_X3_49 fv_X0_take (by decide) (Nat.le_of_ble_eq_true rfl) (by decide) e63 (fun c_24 => ?_) (fun w65 c_24 => ?_)
    · refine ab_astore_nN (pc := 27) dX3_takeTurn_27 rfl (Nat.le_of_ble_eq_true rfl) rfl ?_
      refine ab_aload_nN (pc := 28) dX3_takeTurn_28 rfl rfl ?_
      refine ab_ifnonnullN (pc := 29) dX3_takeTurn_29 ?_
      refine xo_vr (pc := 32) dX3_takeTurn_32 rfl ?_
      (rw [FX3_takeTurn]; (first | rw [if_neg c_12] | (dsimp only; rw [if_neg c_12])); (first | rw [ab_o_n c_24] | (dsimp only; rw [ab_o_n c_24])); (first | done | rfl | (dsimp only; done)))
    · replace hD := hD.2 w65 c_24
      refine ab_astore_n (pc := 27) dX3_takeTurn_27 rfl (Nat.le_of_ble_eq_true rfl) rfl ?_
      refine ab_aload_n (pc := 28) dX3_takeTurn_28 rfl rfl ?_
      refine ab_ifnonnull (pc := 29) (tgt := 33) dX3_takeTurn_29 (by decide) ?_
      refine ab_aload_n (pc := 33) dX3_takeTurn_33 rfl rfl ?_
      obtain ⟨o66, hD⟩ := hD
      refine xo_gi (pc := 34) dX3_takeTurn_34 fl_X3_53 o66 rfl ?_
      refine ab_tsw (pc := 37) [(1, 220), (2, 382), (3, 270), (4, 286), (5, 382), (6, 247), (7, 382), (22, 306), (30, 330), (31, 358), (42, 318)] 417 dX3_takeTurn_37 (by decide +kernel) (ab_c1 (fun c_37 => ?_) (ab_c1 (fun c_37 => ?_) (ab_c1 (fun c_37 => ?_) (ab_c1 (fun c_37 => ?_) (ab_c1 (fun c_37 => ?_) (ab_c1 (fun c_37 => ?_) (ab_c1 (fun c_37 => ?_) (ab_c1 (fun c_37 => ?_) (ab_c1 (fun c_37 => ?_) (ab_c1 (fun c_37 => ?_) (ab_c1 (fun c_37 => ?_) (ab_c0)))))))))))) (fun c_37 => ?_)
      · replace hD := hD.1 c_37
        refine ab_aload_n (pc := 220) dX3_takeTurn_220 rfl rfl ?_
        refine ab_iconst (pc := 221) (v := nI 2) dX3_takeTurn_221 (by decide) ?_
        refine ab_aload_n (pc := 222) dX3_takeTurn_222 rfl rfl ?_
        refine xo_gi (pc := 223) dX3_takeTurn_223 fl_X3_58 o66 rfl ?_
        refine ab_bipush (pc := 226) (v := nI 50) dX3_takeTurn_226 (by decide) ?_
        refine ab_aload_n (pc := 228) dX3_takeTurn_228 rfl rfl ?_
        refine ab_aload_n (pc := 229) dX3_takeTurn_229 rfl rfl ?_
        refine xo_gi (pc := 230) dX3_takeTurn_230 fl_X3_58 o66 rfl ?_
        refine ab_aload_n (pc := 233) dX3_takeTurn_233 rfl rfl ?_
        refine xo_gi (pc := 234) dX3_takeTurn_234 fl_X3_61 o66 rfl ?_
        obtain ⟨o67, hD⟩ := hD
        have e68 := c_X3_openFile (tt := tt) _ _ _ o67
        refine xo_invi (N := mX3_openFile) (pc := 237) (d' := 3) (av := [_, _]) dX3_takeTurn_237 ml_X3_64 fv_X3_openFile (by decide) (Nat.le_of_ble_eq_true rfl) (by decide) e68 ?_
        refine ab_iconst (pc := 240) (v := nI 0) dX3_takeTurn_240 (by decide) ?_
        obtain ⟨o70, hD⟩ := hD
        have e71 := c_X1_send (tt := tt) _ _ _ _ _ _ o70
        refine xo_invv (N := mX1_send) (pc := 241) (d' := 2) (av := [_, _, _, _, _]) dX3_takeTurn_241 ml_X3_68 fv_X1_send (by decide) (Nat.le_of_ble_eq_true rfl) (by decide) e71 ?_
        refine ab_goto (pc := 244) (tgt := 417) dX3_takeTurn_244 (by decide) ?_
        refine xo_vr (pc := 417) dX3_takeTurn_417 rfl ?_
        (rw [FX3_takeTurn]; (first | rw [if_neg c_12] | (dsimp only; rw [if_neg c_12])); (first | rw [ab_o_s c_24] | (dsimp only; rw [ab_o_s c_24])); (first | rw [if_pos c_37] | (dsimp only; rw [if_pos c_37])); (first | done | rfl | (dsimp only; done)))
      · replace hD := hD.2.1 c_37
        refine ab_aload_n (pc := 382) dX3_takeTurn_382 rfl rfl ?_
        refine ab_iconst (pc := 383) (v := nI 2) dX3_takeTurn_383 (by decide) ?_
        refine ab_aload_n (pc := 384) dX3_takeTurn_384 rfl rfl ?_
        refine xo_gi (pc := 385) dX3_takeTurn_385 fl_X3_58 o66 rfl ?_
        refine ab_bipush (pc := 388) (v := nI 50) dX3_takeTurn_388 (by decide) ?_
        refine ab_aload_n (pc := 390) dX3_takeTurn_390 rfl rfl ?_
        refine ab_aload_n (pc := 391) dX3_takeTurn_391 rfl rfl ?_
        refine xo_gi (pc := 392) dX3_takeTurn_392 fl_X3_58 o66 rfl ?_
        refine ab_aload_n (pc := 395) dX3_takeTurn_395 rfl rfl ?_
        refine xo_gi (pc := 396) dX3_takeTurn_396 fl_X3_53 o66 rfl ?_
        refine ab_aload_n (pc := 399) dX3_takeTurn_399 rfl rfl ?_
        refine xo_gi (pc := 400) dX3_takeTurn_400 fl_X3_61 o66 rfl ?_
        refine ab_aload_n (pc := 403) dX3_takeTurn_403 rfl rfl ?_
        refine xo_gi (pc := 404) dX3_takeTurn_404 fl_X3_79 o66 rfl ?_
        obtain ⟨o73, hD⟩ := hD
        have e74 := c_X3_handle (tt := tt) _ _ _ _ _ o73
        refine xo_invi (N := mX3_handle) (pc := 407) (d' := 3) (av := [_, _, _, _]) dX3_takeTurn_407 ml_X3_103 fv_X3_handle (by decide) (Nat.le_of_ble_eq_true rfl) (by decide) e74 ?_
        refine ab_iconst (pc := 410) (v := nI 0) dX3_takeTurn_410 (by decide) ?_
        obtain ⟨o76, hD⟩ := hD
        have e77 := c_X1_send (tt := tt) _ _ _ _ _ _ o76
        refine xo_invv (N := mX1_send) (pc := 411) (d' := 2) (av := [_, _, _, _, _]) dX3_takeTurn_411 ml_X3_68 fv_X1_send (by decide) (Nat.le_of_ble_eq_true rfl) (by decide) e77 ?_
        refine ab_goto (pc := 414) (tgt := 417) dX3_takeTurn_414 (by decide) ?_
        refine xo_vr (pc := 417) dX3_takeTurn_417 rfl ?_
        (rw [FX3_takeTurn]; (first | rw [if_neg c_12] | (dsimp only; rw [if_neg c_12])); (first | rw [ab_o_s c_24] | (dsimp only; rw [ab_o_s c_24])); (first | rw [if_neg (fun h => absurd (c_37.symm.trans h) (by decide))] | (dsimp only; rw [if_neg (fun h => absurd (c_37.symm.trans h) (by decide))])); (first | rw [if_pos c_37] | (dsimp only; rw [if_pos c_37])); (first | done | rfl | (dsimp only; done)))
      · replace hD := hD.2.2.1 c_37
        refine ab_aload_n (pc := 270) dX3_takeTurn_270 rfl rfl ?_
        refine ab_aload_n (pc := 271) dX3_takeTurn_271 rfl rfl ?_
        refine ab_aload_n (pc := 272) dX3_takeTurn_272 rfl rfl ?_
        refine xo_gi (pc := 273) dX3_takeTurn_273 fl_X3_58 o66 rfl ?_
        refine ab_aload_n (pc := 276) dX3_takeTurn_276 rfl rfl ?_
        refine xo_gi (pc := 277) dX3_takeTurn_277 fl_X3_61 o66 rfl ?_
        obtain ⟨o79, hD⟩ := hD
        have e80 := c_X3_read (tt := tt) _ _ _ o79
        refine xo_invv (N := mX3_read) (pc := 280) (d' := 3) (av := [_, _, _]) dX3_takeTurn_280 ml_X3_75 fv_X3_read (by decide) (Nat.le_of_ble_eq_true rfl) (by decide) e80 ?_
        refine ab_goto (pc := 283) (tgt := 417) dX3_takeTurn_283 (by decide) ?_
        refine xo_vr (pc := 417) dX3_takeTurn_417 rfl ?_
        (rw [FX3_takeTurn]; (first | rw [if_neg c_12] | (dsimp only; rw [if_neg c_12])); (first | rw [ab_o_s c_24] | (dsimp only; rw [ab_o_s c_24])); (first | rw [if_neg (fun h => absurd (c_37.symm.trans h) (by decide))] | (dsimp only; rw [if_neg (fun h => absurd (c_37.symm.trans h) (by decide))])); (first | rw [if_neg (fun h => absurd (c_37.symm.trans h) (by decide))] | (dsimp only; rw [if_neg (fun h => absurd (c_37.symm.trans h) (by decide))])); (first | rw [if_pos c_37] | (dsimp only; rw [if_pos c_37])); (first | done | rfl | (dsimp only; done)))
      · replace hD := hD.2.2.2.1 c_37
        refine ab_aload_n (pc := 286) dX3_takeTurn_286 rfl rfl ?_
        refine ab_aload_n (pc := 287) dX3_takeTurn_287 rfl rfl ?_
        refine ab_aload_n (pc := 288) dX3_takeTurn_288 rfl rfl ?_
        refine xo_gi (pc := 289) dX3_takeTurn_289 fl_X3_58 o66 rfl ?_
        refine ab_aload_n (pc := 292) dX3_takeTurn_292 rfl rfl ?_
        refine xo_gi (pc := 293) dX3_takeTurn_293 fl_X3_61 o66 rfl ?_
        refine ab_aload_n (pc := 296) dX3_takeTurn_296 rfl rfl ?_
        refine xo_gi (pc := 297) dX3_takeTurn_297 fl_X3_79 o66 rfl ?_
        obtain ⟨o82, hD⟩ := hD
        have e83 := c_X3_write (tt := tt) _ _ _ _ o82
        refine xo_invv (N := mX3_write) (pc := 300) (d' := 3) (av := [_, _, _, _]) dX3_takeTurn_300 ml_X3_82 fv_X3_write (by decide) (Nat.le_of_ble_eq_true rfl) (by decide) e83 ?_
        refine ab_goto (pc := 303) (tgt := 417) dX3_takeTurn_303 (by decide) ?_
        refine xo_vr (pc := 417) dX3_takeTurn_417 rfl ?_
        (rw [FX3_takeTurn]; (first | rw [if_neg c_12] | (dsimp only; rw [if_neg c_12])); (first | rw [ab_o_s c_24] | (dsimp only; rw [ab_o_s c_24])); (first | rw [if_neg (fun h => absurd (c_37.symm.trans h) (by decide))] | (dsimp only; rw [if_neg (fun h => absurd (c_37.symm.trans h) (by decide))])); (first | rw [if_neg (fun h => absurd (c_37.symm.trans h) (by decide))] | (dsimp only; rw [if_neg (fun h => absurd (c_37.symm.trans h) (by decide))])); (first | rw [if_neg (fun h => absurd (c_37.symm.trans h) (by decide))] | (dsimp only; rw [if_neg (fun h => absurd (c_37.symm.trans h) (by decide))])); (first | rw [if_pos c_37] | (dsimp only; rw [if_pos c_37])); (first | done | rfl | (dsimp only; done)))
      · replace hD := hD.2.2.2.2.1 c_37
        refine ab_aload_n (pc := 382) dX3_takeTurn_382 rfl rfl ?_
        refine ab_iconst (pc := 383) (v := nI 2) dX3_takeTurn_383 (by decide) ?_
        refine ab_aload_n (pc := 384) dX3_takeTurn_384 rfl rfl ?_
        refine xo_gi (pc := 385) dX3_takeTurn_385 fl_X3_58 o66 rfl ?_
        refine ab_bipush (pc := 388) (v := nI 50) dX3_takeTurn_388 (by decide) ?_
        refine ab_aload_n (pc := 390) dX3_takeTurn_390 rfl rfl ?_
        refine ab_aload_n (pc := 391) dX3_takeTurn_391 rfl rfl ?_
        refine xo_gi (pc := 392) dX3_takeTurn_392 fl_X3_58 o66 rfl ?_
        refine ab_aload_n (pc := 395) dX3_takeTurn_395 rfl rfl ?_
        refine xo_gi (pc := 396) dX3_takeTurn_396 fl_X3_53 o66 rfl ?_
        refine ab_aload_n (pc := 399) dX3_takeTurn_399 rfl rfl ?_
        refine xo_gi (pc := 400) dX3_takeTurn_400 fl_X3_61 o66 rfl ?_
        refine ab_aload_n (pc := 403) dX3_takeTurn_403 rfl rfl ?_
        refine xo_gi (pc := 404) dX3_takeTurn_404 fl_X3_79 o66 rfl ?_
        obtain ⟨o85, hD⟩ := hD
        have e86 := c_X3_handle (tt := tt) _ _ _ _ _ o85
        refine xo_invi (N := mX3_handle) (pc := 407) (d' := 3) (av := [_, _, _, _]) dX3_takeTurn_407 ml_X3_103 fv_X3_handle (by decide) (Nat.le_of_ble_eq_true rfl) (by decide) e86 ?_
        refine ab_iconst (pc := 410) (v := nI 0) dX3_takeTurn_410 (by decide) ?_
        obtain ⟨o88, hD⟩ := hD
        have e89 := c_X1_send (tt := tt) _ _ _ _ _ _ o88
        refine xo_invv (N := mX1_send) (pc := 411) (d' := 2) (av := [_, _, _, _, _]) dX3_takeTurn_411 ml_X3_68 fv_X1_send (by decide) (Nat.le_of_ble_eq_true rfl) (by decide) e89 ?_
        refine ab_goto (pc := 414) (tgt := 417) dX3_takeTurn_414 (by decide) ?_
        refine xo_vr (pc := 417) dX3_takeTurn_417 rfl ?_
        (rw [FX3_takeTurn]; (first | rw [if_neg c_12] | (dsimp only; rw [if_neg c_12])); (first | rw [ab_o_s c_24] | (dsimp only; rw [ab_o_s c_24])); (first | rw [if_neg (fun h => absurd (c_37.symm.trans h) (by decide))] | (dsimp only; rw [if_neg (fun h => absurd (c_37.symm.trans h) (by decide))])); (first | rw [if_neg (fun h => absurd (c_37.symm.trans h) (by decide))] | (dsimp only; rw [if_neg (fun h => absurd (c_37.symm.trans h) (by decide))])); (first | rw [if_neg (fun h => absurd (c_37.symm.trans h) (by decide))] | (dsimp only; rw [if_neg (fun h => absurd (c_37.symm.trans h) (by decide))])); (first | rw [if_neg (fun h => absurd (c_37.symm.trans h) (by decide))] | (dsimp only; rw [if_neg (fun h => absurd (c_37.symm.trans h) (by decide))])); (first | rw [if_pos c_37] | (dsimp only; rw [if_pos c_37])); (first | done | rfl | (dsimp only; done)))
      · replace hD := hD.2.2.2.2.2.1 c_37
        refine ab_aload_n (pc := 247) dX3_takeTurn_247 rfl rfl ?_
        refine ab_iconst (pc := 248) (v := nI 2) dX3_takeTurn_248 (by decide) ?_
        refine ab_aload_n (pc := 249) dX3_takeTurn_249 rfl rfl ?_
        refine xo_gi (pc := 250) dX3_takeTurn_250 fl_X3_58 o66 rfl ?_
        refine ab_bipush (pc := 253) (v := nI 50) dX3_takeTurn_253 (by decide) ?_
        refine ab_aload_n (pc := 255) dX3_takeTurn_255 rfl rfl ?_
        refine ab_aload_n (pc := 256) dX3_takeTurn_256 rfl rfl ?_
        refine xo_gi (pc := 257) dX3_takeTurn_257 fl_X3_61 o66 rfl ?_
        obtain ⟨o91, hD⟩ := hD
        have e92 := c_X3_removeFile (tt := tt) _ _ o91
        refine xo_invi (N := mX3_removeFile) (pc := 260) (d' := 2) (av := [_]) dX3_takeTurn_260 ml_X3_72 fv_X3_removeFile (by decide) (Nat.le_of_ble_eq_true rfl) (by decide) e92 ?_
        refine ab_iconst (pc := 263) (v := nI 0) dX3_takeTurn_263 (by decide) ?_
        obtain ⟨o94, hD⟩ := hD
        have e95 := c_X1_send (tt := tt) _ _ _ _ _ _ o94
        refine xo_invv (N := mX1_send) (pc := 264) (d' := 2) (av := [_, _, _, _, _]) dX3_takeTurn_264 ml_X3_68 fv_X1_send (by decide) (Nat.le_of_ble_eq_true rfl) (by decide) e95 ?_
        refine ab_goto (pc := 267) (tgt := 417) dX3_takeTurn_267 (by decide) ?_
        refine xo_vr (pc := 417) dX3_takeTurn_417 rfl ?_
        (rw [FX3_takeTurn]; (first | rw [if_neg c_12] | (dsimp only; rw [if_neg c_12])); (first | rw [ab_o_s c_24] | (dsimp only; rw [ab_o_s c_24])); (first | rw [if_neg (fun h => absurd (c_37.symm.trans h) (by decide))] | (dsimp only; rw [if_neg (fun h => absurd (c_37.symm.trans h) (by decide))])); (first | rw [if_neg (fun h => absurd (c_37.symm.trans h) (by decide))] | (dsimp only; rw [if_neg (fun h => absurd (c_37.symm.trans h) (by decide))])); (first | rw [if_neg (fun h => absurd (c_37.symm.trans h) (by decide))] | (dsimp only; rw [if_neg (fun h => absurd (c_37.symm.trans h) (by decide))])); (first | rw [if_neg (fun h => absurd (c_37.symm.trans h) (by decide))] | (dsimp only; rw [if_neg (fun h => absurd (c_37.symm.trans h) (by decide))])); (first | rw [if_neg (fun h => absurd (c_37.symm.trans h) (by decide))] | (dsimp only; rw [if_neg (fun h => absurd (c_37.symm.trans h) (by decide))])); (first | rw [if_pos c_37] | (dsimp only; rw [if_pos c_37])); (first | done | rfl | (dsimp only; done)))
      · replace hD := hD.2.2.2.2.2.2.1 c_37
        refine ab_aload_n (pc := 382) dX3_takeTurn_382 rfl rfl ?_
        refine ab_iconst (pc := 383) (v := nI 2) dX3_takeTurn_383 (by decide) ?_
        refine ab_aload_n (pc := 384) dX3_takeTurn_384 rfl rfl ?_
        refine xo_gi (pc := 385) dX3_takeTurn_385 fl_X3_58 o66 rfl ?_
        refine ab_bipush (pc := 388) (v := nI 50) dX3_takeTurn_388 (by decide) ?_
        refine ab_aload_n (pc := 390) dX3_takeTurn_390 rfl rfl ?_
        refine ab_aload_n (pc := 391) dX3_takeTurn_391 rfl rfl ?_
        refine xo_gi (pc := 392) dX3_takeTurn_392 fl_X3_58 o66 rfl ?_
        refine ab_aload_n (pc := 395) dX3_takeTurn_395 rfl rfl ?_
        refine xo_gi (pc := 396) dX3_takeTurn_396 fl_X3_53 o66 rfl ?_
        refine ab_aload_n (pc := 399) dX3_takeTurn_399 rfl rfl ?_
        refine xo_gi (pc := 400) dX3_takeTurn_400 fl_X3_61 o66 rfl ?_
        refine ab_aload_n (pc := 403) dX3_takeTurn_403 rfl rfl ?_
        refine xo_gi (pc := 404) dX3_takeTurn_404 fl_X3_79 o66 rfl ?_
        obtain ⟨o97, hD⟩ := hD
        have e98 := c_X3_handle (tt := tt) _ _ _ _ _ o97
        refine xo_invi (N := mX3_handle) (pc := 407) (d' := 3) (av := [_, _, _, _]) dX3_takeTurn_407 ml_X3_103 fv_X3_handle (by decide) (Nat.le_of_ble_eq_true rfl) (by decide) e98 ?_
        refine ab_iconst (pc := 410) (v := nI 0) dX3_takeTurn_410 (by decide) ?_
        obtain ⟨o100, hD⟩ := hD
        have e101 := c_X1_send (tt := tt) _ _ _ _ _ _ o100
        refine xo_invv (N := mX1_send) (pc := 411) (d' := 2) (av := [_, _, _, _, _]) dX3_takeTurn_411 ml_X3_68 fv_X1_send (by decide) (Nat.le_of_ble_eq_true rfl) (by decide) e101 ?_
        refine ab_goto (pc := 414) (tgt := 417) dX3_takeTurn_414 (by decide) ?_
        refine xo_vr (pc := 417) dX3_takeTurn_417 rfl ?_
        (rw [FX3_takeTurn]; (first | rw [if_neg c_12] | (dsimp only; rw [if_neg c_12])); (first | rw [ab_o_s c_24] | (dsimp only; rw [ab_o_s c_24])); (first | rw [if_neg (fun h => absurd (c_37.symm.trans h) (by decide))] | (dsimp only; rw [if_neg (fun h => absurd (c_37.symm.trans h) (by decide))])); (first | rw [if_neg (fun h => absurd (c_37.symm.trans h) (by decide))] | (dsimp only; rw [if_neg (fun h => absurd (c_37.symm.trans h) (by decide))])); (first | rw [if_neg (fun h => absurd (c_37.symm.trans h) (by decide))] | (dsimp only; rw [if_neg (fun h => absurd (c_37.symm.trans h) (by decide))])); (first | rw [if_neg (fun h => absurd (c_37.symm.trans h) (by decide))] | (dsimp only; rw [if_neg (fun h => absurd (c_37.symm.trans h) (by decide))])); (first | rw [if_neg (fun h => absurd (c_37.symm.trans h) (by decide))] | (dsimp only; rw [if_neg (fun h => absurd (c_37.symm.trans h) (by decide))])); (first | rw [if_neg (fun h => absurd (c_37.symm.trans h) (by decide))] | (dsimp only; rw [if_neg (fun h => absurd (c_37.symm.trans h) (by decide))])); (first | rw [if_pos c_37] | (dsimp only; rw [if_pos c_37])); (first | done | rfl | (dsimp only; done)))
      · replace hD := hD.2.2.2.2.2.2.2.1 c_37
        refine ab_aload_n (pc := 306) dX3_takeTurn_306 rfl rfl ?_
        refine ab_aload_n (pc := 307) dX3_takeTurn_307 rfl rfl ?_
        refine ab_aload_n (pc := 308) dX3_takeTurn_308 rfl rfl ?_
        refine xo_gr (pc := 309) dX3_takeTurn_309 fl_X3_86 o66 rfl (crX_num o66) ?_
        obtain ⟨o103, hD⟩ := hD
        have e104 := c_X3_goOn (tt := tt) _ _ o103
        refine xo_invv (N := mX3_goOn) (pc := 312) (d' := 3) (av := [_, _]) dX3_takeTurn_312 ml_X3_87 fv_X3_goOn (by decide) (Nat.le_of_ble_eq_true rfl) (by decide) e104 ?_
        refine ab_goto (pc := 315) (tgt := 417) dX3_takeTurn_315 (by decide) ?_
        refine xo_vr (pc := 417) dX3_takeTurn_417 rfl ?_
        (rw [FX3_takeTurn]; (first | rw [if_neg c_12] | (dsimp only; rw [if_neg c_12])); (first | rw [ab_o_s c_24] | (dsimp only; rw [ab_o_s c_24])); (first | rw [if_neg (fun h => absurd (c_37.symm.trans h) (by decide))] | (dsimp only; rw [if_neg (fun h => absurd (c_37.symm.trans h) (by decide))])); (first | rw [if_neg (fun h => absurd (c_37.symm.trans h) (by decide))] | (dsimp only; rw [if_neg (fun h => absurd (c_37.symm.trans h) (by decide))])); (first | rw [if_neg (fun h => absurd (c_37.symm.trans h) (by decide))] | (dsimp only; rw [if_neg (fun h => absurd (c_37.symm.trans h) (by decide))])); (first | rw [if_neg (fun h => absurd (c_37.symm.trans h) (by decide))] | (dsimp only; rw [if_neg (fun h => absurd (c_37.symm.trans h) (by decide))])); (first | rw [if_neg (fun h => absurd (c_37.symm.trans h) (by decide))] | (dsimp only; rw [if_neg (fun h => absurd (c_37.symm.trans h) (by decide))])); (first | rw [if_neg (fun h => absurd (c_37.symm.trans h) (by decide))] | (dsimp only; rw [if_neg (fun h => absurd (c_37.symm.trans h) (by decide))])); (first | rw [if_neg (fun h => absurd (c_37.symm.trans h) (by decide))] | (dsimp only; rw [if_neg (fun h => absurd (c_37.symm.trans h) (by decide))])); (first | rw [if_pos c_37] | (dsimp only; rw [if_pos c_37])); (first | done | rfl | (dsimp only; done)))
      · replace hD := hD.2.2.2.2.2.2.2.2.1 c_37
        refine ab_aload_n (pc := 330) dX3_takeTurn_330 rfl rfl ?_
        refine xo_gr (pc := 331) (a := (353 : Nat)) dX3_takeTurn_331 fl_X3_21 (by decide) rfl rfl ?_
        refine ab_aload_n (pc := 334) dX3_takeTurn_334 rfl rfl ?_
        refine xo_gi (pc := 335) dX3_takeTurn_335 fl_X3_61 o66 rfl ?_
        refine ab_aload_n (pc := 338) dX3_takeTurn_338 rfl rfl ?_
        refine xo_gi (pc := 339) dX3_takeTurn_339 fl_X3_79 o66 rfl ?_
        obtain ⟨o106, hD⟩ := hD
        have e107 := c_X7_copyAll (tt := tt) _ _ _ o106
        refine xo_invv (N := mX7_copyAll) (pc := 342) (d' := 3) (av := [_, _]) dX3_takeTurn_342 ml_X3_95 fv_X7_copyAll (by decide) (Nat.le_of_ble_eq_true rfl) (by decide) e107 ?_
        refine ab_aload_n (pc := 345) dX3_takeTurn_345 rfl rfl ?_
        refine ab_iconst (pc := 346) (v := nI 2) dX3_takeTurn_346 (by decide) ?_
        refine ab_iconst (pc := 347) (v := nI 3) dX3_takeTurn_347 (by decide) ?_
        refine ab_bipush (pc := 348) (v := nI 32) dX3_takeTurn_348 (by decide) ?_
        refine ab_iconst (pc := 350) (v := nI 0) dX3_takeTurn_350 (by decide) ?_
        refine ab_iconst (pc := 351) (v := nI 0) dX3_takeTurn_351 (by decide) ?_
        obtain ⟨o109, hD⟩ := hD
        have e110 := c_X1_send (tt := tt) _ _ _ _ _ _ o109
        refine xo_invv (N := mX1_send) (pc := 352) (d' := 2) (av := [_, _, _, _, _]) dX3_takeTurn_352 ml_X3_68 fv_X1_send (by decide) (Nat.le_of_ble_eq_true rfl) (by decide) e110 ?_
        refine ab_goto (pc := 355) (tgt := 417) dX3_takeTurn_355 (by decide) ?_
        refine xo_vr (pc := 417) dX3_takeTurn_417 rfl ?_
        (rw [FX3_takeTurn]; (first | rw [if_neg c_12] | (dsimp only; rw [if_neg c_12])); (first | rw [ab_o_s c_24] | (dsimp only; rw [ab_o_s c_24])); (first | rw [if_neg (fun h => absurd (c_37.symm.trans h) (by decide))] | (dsimp only; rw [if_neg (fun h => absurd (c_37.symm.trans h) (by decide))])); (first | rw [if_neg (fun h => absurd (c_37.symm.trans h) (by decide))] | (dsimp only; rw [if_neg (fun h => absurd (c_37.symm.trans h) (by decide))])); (first | rw [if_neg (fun h => absurd (c_37.symm.trans h) (by decide))] | (dsimp only; rw [if_neg (fun h => absurd (c_37.symm.trans h) (by decide))])); (first | rw [if_neg (fun h => absurd (c_37.symm.trans h) (by decide))] | (dsimp only; rw [if_neg (fun h => absurd (c_37.symm.trans h) (by decide))])); (first | rw [if_neg (fun h => absurd (c_37.symm.trans h) (by decide))] | (dsimp only; rw [if_neg (fun h => absurd (c_37.symm.trans h) (by decide))])); (first | rw [if_neg (fun h => absurd (c_37.symm.trans h) (by decide))] | (dsimp only; rw [if_neg (fun h => absurd (c_37.symm.trans h) (by decide))])); (first | rw [if_neg (fun h => absurd (c_37.symm.trans h) (by decide))] | (dsimp only; rw [if_neg (fun h => absurd (c_37.symm.trans h) (by decide))])); (first | rw [if_neg (fun h => absurd (c_37.symm.trans h) (by decide))] | (dsimp only; rw [if_neg (fun h => absurd (c_37.symm.trans h) (by decide))])); (first | rw [if_pos c_37] | (dsimp only; rw [if_pos c_37])); (first | done | rfl | (dsimp only; done)))
      · replace hD := hD.2.2.2.2.2.2.2.2.2.1 c_37
        refine ab_aload_n (pc := 358) dX3_takeTurn_358 rfl rfl ?_
        refine xo_gr (pc := 359) (a := (353 : Nat)) dX3_takeTurn_359 fl_X3_21 (by decide) rfl rfl ?_
        refine ab_aload_n (pc := 362) dX3_takeTurn_362 rfl rfl ?_
        refine xo_gi (pc := 363) dX3_takeTurn_363 fl_X3_61 o66 rfl ?_
        obtain ⟨o112, hD⟩ := hD
        have e113 := c_X7_closeAll (tt := tt) _ _ o112
        refine xo_invv (N := mX7_closeAll) (pc := 366) (d' := 2) (av := [_]) dX3_takeTurn_366 ml_X3_99 fv_X7_closeAll (by decide) (Nat.le_of_ble_eq_true rfl) (by decide) e113 ?_
        refine ab_aload_n (pc := 369) dX3_takeTurn_369 rfl rfl ?_
        refine ab_iconst (pc := 370) (v := nI 2) dX3_takeTurn_370 (by decide) ?_
        refine ab_iconst (pc := 371) (v := nI 3) dX3_takeTurn_371 (by decide) ?_
        refine ab_bipush (pc := 372) (v := nI 32) dX3_takeTurn_372 (by decide) ?_
        refine ab_iconst (pc := 374) (v := nI 0) dX3_takeTurn_374 (by decide) ?_
        refine ab_iconst (pc := 375) (v := nI 0) dX3_takeTurn_375 (by decide) ?_
        obtain ⟨o115, hD⟩ := hD
        have e116 := c_X1_send (tt := tt) _ _ _ _ _ _ o115
        refine xo_invv (N := mX1_send) (pc := 376) (d' := 2) (av := [_, _, _, _, _]) dX3_takeTurn_376 ml_X3_68 fv_X1_send (by decide) (Nat.le_of_ble_eq_true rfl) (by decide) e116 ?_
        refine ab_goto (pc := 379) (tgt := 417) dX3_takeTurn_379 (by decide) ?_
        refine xo_vr (pc := 417) dX3_takeTurn_417 rfl ?_
        (rw [FX3_takeTurn]; (first | rw [if_neg c_12] | (dsimp only; rw [if_neg c_12])); (first | rw [ab_o_s c_24] | (dsimp only; rw [ab_o_s c_24])); (first | rw [if_neg (fun h => absurd (c_37.symm.trans h) (by decide))] | (dsimp only; rw [if_neg (fun h => absurd (c_37.symm.trans h) (by decide))])); (first | rw [if_neg (fun h => absurd (c_37.symm.trans h) (by decide))] | (dsimp only; rw [if_neg (fun h => absurd (c_37.symm.trans h) (by decide))])); (first | rw [if_neg (fun h => absurd (c_37.symm.trans h) (by decide))] | (dsimp only; rw [if_neg (fun h => absurd (c_37.symm.trans h) (by decide))])); (first | rw [if_neg (fun h => absurd (c_37.symm.trans h) (by decide))] | (dsimp only; rw [if_neg (fun h => absurd (c_37.symm.trans h) (by decide))])); (first | rw [if_neg (fun h => absurd (c_37.symm.trans h) (by decide))] | (dsimp only; rw [if_neg (fun h => absurd (c_37.symm.trans h) (by decide))])); (first | rw [if_neg (fun h => absurd (c_37.symm.trans h) (by decide))] | (dsimp only; rw [if_neg (fun h => absurd (c_37.symm.trans h) (by decide))])); (first | rw [if_neg (fun h => absurd (c_37.symm.trans h) (by decide))] | (dsimp only; rw [if_neg (fun h => absurd (c_37.symm.trans h) (by decide))])); (first | rw [if_neg (fun h => absurd (c_37.symm.trans h) (by decide))] | (dsimp only; rw [if_neg (fun h => absurd (c_37.symm.trans h) (by decide))])); (first | rw [if_neg (fun h => absurd (c_37.symm.trans h) (by decide))] | (dsimp only; rw [if_neg (fun h => absurd (c_37.symm.trans h) (by decide))])); (first | rw [if_pos c_37] | (dsimp only; rw [if_pos c_37])); (first | done | rfl | (dsimp only; done)))
      · replace hD := hD.2.2.2.2.2.2.2.2.2.2.1 c_37
        refine ab_aload_n (pc := 318) dX3_takeTurn_318 rfl rfl ?_
        refine ab_aload_n (pc := 319) dX3_takeTurn_319 rfl rfl ?_
        refine ab_aload_n (pc := 320) dX3_takeTurn_320 rfl rfl ?_
        refine xo_gi (pc := 321) dX3_takeTurn_321 fl_X3_61 o66 rfl ?_
        obtain ⟨o118, hD⟩ := hD
        have e119 := c_X3_hearOfLife (tt := tt) _ _ o118
        refine xo_invv (N := mX3_hearOfLife) (pc := 324) (d' := 3) (av := [_, _]) dX3_takeTurn_324 ml_X3_91 fv_X3_hearOfLife (by decide) (Nat.le_of_ble_eq_true rfl) (by decide) e119 ?_
        refine ab_goto (pc := 327) (tgt := 417) dX3_takeTurn_327 (by decide) ?_
        refine xo_vr (pc := 417) dX3_takeTurn_417 rfl ?_
        (rw [FX3_takeTurn]; (first | rw [if_neg c_12] | (dsimp only; rw [if_neg c_12])); (first | rw [ab_o_s c_24] | (dsimp only; rw [ab_o_s c_24])); (first | rw [if_neg (fun h => absurd (c_37.symm.trans h) (by decide))] | (dsimp only; rw [if_neg (fun h => absurd (c_37.symm.trans h) (by decide))])); (first | rw [if_neg (fun h => absurd (c_37.symm.trans h) (by decide))] | (dsimp only; rw [if_neg (fun h => absurd (c_37.symm.trans h) (by decide))])); (first | rw [if_neg (fun h => absurd (c_37.symm.trans h) (by decide))] | (dsimp only; rw [if_neg (fun h => absurd (c_37.symm.trans h) (by decide))])); (first | rw [if_neg (fun h => absurd (c_37.symm.trans h) (by decide))] | (dsimp only; rw [if_neg (fun h => absurd (c_37.symm.trans h) (by decide))])); (first | rw [if_neg (fun h => absurd (c_37.symm.trans h) (by decide))] | (dsimp only; rw [if_neg (fun h => absurd (c_37.symm.trans h) (by decide))])); (first | rw [if_neg (fun h => absurd (c_37.symm.trans h) (by decide))] | (dsimp only; rw [if_neg (fun h => absurd (c_37.symm.trans h) (by decide))])); (first | rw [if_neg (fun h => absurd (c_37.symm.trans h) (by decide))] | (dsimp only; rw [if_neg (fun h => absurd (c_37.symm.trans h) (by decide))])); (first | rw [if_neg (fun h => absurd (c_37.symm.trans h) (by decide))] | (dsimp only; rw [if_neg (fun h => absurd (c_37.symm.trans h) (by decide))])); (first | rw [if_neg (fun h => absurd (c_37.symm.trans h) (by decide))] | (dsimp only; rw [if_neg (fun h => absurd (c_37.symm.trans h) (by decide))])); (first | rw [if_neg (fun h => absurd (c_37.symm.trans h) (by decide))] | (dsimp only; rw [if_neg (fun h => absurd (c_37.symm.trans h) (by decide))])); (first | rw [if_pos c_37] | (dsimp only; rw [if_pos c_37])); (first | done | rfl | (dsimp only; done)))
      · refine xo_vr (pc := 417) dX3_takeTurn_417 rfl ?_
        (rw [FX3_takeTurn]; (first | rw [if_neg c_12] | (dsimp only; rw [if_neg c_12])); (first | rw [ab_o_s c_24] | (dsimp only; rw [ab_o_s c_24])); (first | rw [if_neg (c_37 _ (List.mem_of_getElem? (i := 0) rfl))] | (dsimp only; rw [if_neg (c_37 _ (List.mem_of_getElem? (i := 0) rfl))])); (first | rw [if_neg (c_37 _ (List.mem_of_getElem? (i := 1) rfl))] | (dsimp only; rw [if_neg (c_37 _ (List.mem_of_getElem? (i := 1) rfl))])); (first | rw [if_neg (c_37 _ (List.mem_of_getElem? (i := 2) rfl))] | (dsimp only; rw [if_neg (c_37 _ (List.mem_of_getElem? (i := 2) rfl))])); (first | rw [if_neg (c_37 _ (List.mem_of_getElem? (i := 3) rfl))] | (dsimp only; rw [if_neg (c_37 _ (List.mem_of_getElem? (i := 3) rfl))])); (first | rw [if_neg (c_37 _ (List.mem_of_getElem? (i := 4) rfl))] | (dsimp only; rw [if_neg (c_37 _ (List.mem_of_getElem? (i := 4) rfl))])); (first | rw [if_neg (c_37 _ (List.mem_of_getElem? (i := 5) rfl))] | (dsimp only; rw [if_neg (c_37 _ (List.mem_of_getElem? (i := 5) rfl))])); (first | rw [if_neg (c_37 _ (List.mem_of_getElem? (i := 6) rfl))] | (dsimp only; rw [if_neg (c_37 _ (List.mem_of_getElem? (i := 6) rfl))])); (first | rw [if_neg (c_37 _ (List.mem_of_getElem? (i := 7) rfl))] | (dsimp only; rw [if_neg (c_37 _ (List.mem_of_getElem? (i := 7) rfl))])); (first | rw [if_neg (c_37 _ (List.mem_of_getElem? (i := 8) rfl))] | (dsimp only; rw [if_neg (c_37 _ (List.mem_of_getElem? (i := 8) rfl))])); (first | rw [if_neg (c_37 _ (List.mem_of_getElem? (i := 9) rfl))] | (dsimp only; rw [if_neg (c_37 _ (List.mem_of_getElem? (i := 9) rfl))])); (first | rw [if_neg (c_37 _ (List.mem_of_getElem? (i := 10) rfl))] | (dsimp only; rw [if_neg (c_37 _ (List.mem_of_getElem? (i := 10) rfl))])); (first | done | rfl | (dsimp only; done)))
