def FX8_hasEnded (u : Int32) (x : xD) : Int32 :=
  if (FX10_isUser (u)) = 0 then
    (nI (0))
  else
    if (x.1 360 ((u).toNatClampNeg)) = 0 then
      (nI (0))
    else
      (nI (1))
def DX8_hasEnded (u : Int32) (x : xD) : Prop :=
  (((FX10_isUser (u)) = 0) →
    True) ∧
  (¬ ((FX10_isUser (u)) = 0) →
    (¬ (u) < 0) ∧
    (((u).toNatClampNeg) < 12) ∧
    True)
set_option maxRecDepth 100000 in
set_option maxHeartbeats 4000000 in
theorem c_X8_hasEnded {tt : Prop} (u : Int32) (x : xD) (hD : DX8_hasEnded u x) : ab_Met mX8_hasEnded 1 0 0 tt [.ref (357 : Nat), .int (u)] (sX x) (xQi (FX8_hasEnded u x, x)) := by
  refine ab_Met.of rfl (Nat.le_of_ble_eq_true rfl) ?_
  show xV mX8_hasEnded 1 tt (xQi (FX8_hasEnded u x, x)) 0 [some (.ref (357 : Nat)), some (.int (u))] [] x
  refine ab_iload_n (pc := 0) dX8_hasEnded_0 rfl rfl ?_
  refine xo_invsN (N := mX10_isUser) (pc := 1) (d' := 0) (av := [_]) dX8_hasEnded_1 nn_X8_25 fs_X10_isUser (Nat.le_of_ble_eq_true rfl) (by decide) (c_X10_isUser _ _ trivial) ?_
  refine ab_if_eq (pc := 4) (tgt := 20) dX8_hasEnded_4 (by decide) (fun c_4 => ?_) (fun c_4 => ?_)
  · refine ab_iconst (pc := 20) (v := nI 0) dX8_hasEnded_20 (by decide) ?_
    refine xo_ir (pc := 21) dX8_hasEnded_21 rfl (ab_nb (Or.inl rfl)) ?_
    (rw [FX8_hasEnded]; (first | rw [if_pos c_4] | (dsimp only; rw [if_pos c_4])); (first | done | rfl | (dsimp only; done)))
  · replace hD := hD.2 c_4
    refine ab_aload_n (pc := 7) dX8_hasEnded_7 rfl rfl ?_
    refine xo_gr (pc := 8) (a := (360 : Nat)) dX8_hasEnded_8 fl_X8_18 (by decide) rfl rfl ?_
    refine ab_iload_n (pc := 11) dX8_hasEnded_11 rfl rfl ?_
    obtain ⟨o1, hD⟩ := hD
    refine ab_nat1 (ab_nat o1) ?_
    obtain ⟨o2, hD⟩ := hD
    refine xo_zld (pc := 12) dX8_hasEnded_12 (by decide) rfl o2 (by decide) ?_
    refine ab_if_eq (pc := 13) (tgt := 20) dX8_hasEnded_13 (by decide) (fun c_13 => ?_) (fun c_13 => ?_)
    · refine ab_iconst (pc := 20) (v := nI 0) dX8_hasEnded_20 (by decide) ?_
      refine xo_ir (pc := 21) dX8_hasEnded_21 rfl (ab_nb (Or.inl rfl)) ?_
      (rw [FX8_hasEnded]; (first | rw [if_neg c_4] | (dsimp only; rw [if_neg c_4])); (first | rw [if_pos c_13] | (dsimp only; rw [if_pos c_13])); (first | done | rfl | (dsimp only; done)))
    · refine ab_iconst (pc := 16) (v := nI 1) dX8_hasEnded_16 (by decide) ?_
      refine ab_goto (pc := 17) (tgt := 21) dX8_hasEnded_17 (by decide) ?_
      refine xo_ir (pc := 21) dX8_hasEnded_21 rfl (ab_nb (Or.inr rfl)) ?_
      (rw [FX8_hasEnded]; (first | rw [if_neg c_4] | (dsimp only; rw [if_neg c_4])); (first | rw [if_neg c_13] | (dsimp only; rw [if_neg c_13])); (first | done | rfl | (dsimp only; done)))
def FX8_parentOf (u : Int32) (x : xD) : Int32 :=
  if (FX10_isUser (u)) = 0 then
    (-1)
  else
    (x.1 358 ((u).toNatClampNeg))
def DX8_parentOf (u : Int32) (x : xD) : Prop :=
  (((FX10_isUser (u)) = 0) →
    True) ∧
  (¬ ((FX10_isUser (u)) = 0) →
    (¬ (u) < 0) ∧
    (((u).toNatClampNeg) < 12) ∧
    True)
set_option maxRecDepth 100000 in
set_option maxHeartbeats 4000000 in
theorem c_X8_parentOf {tt : Prop} (u : Int32) (x : xD) (hD : DX8_parentOf u x) : ab_Met mX8_parentOf 1 0 0 tt [.ref (357 : Nat), .int (u)] (sX x) (xQi (FX8_parentOf u x, x)) := by
  refine ab_Met.of rfl (Nat.le_of_ble_eq_true rfl) ?_
  show xV mX8_parentOf 1 tt (xQi (FX8_parentOf u x, x)) 0 [some (.ref (357 : Nat)), some (.int (u))] [] x
  refine ab_iload_n (pc := 0) dX8_parentOf_0 rfl rfl ?_
  refine xo_invsN (N := mX10_isUser) (pc := 1) (d' := 0) (av := [_]) dX8_parentOf_1 nn_X8_25 fs_X10_isUser (Nat.le_of_ble_eq_true rfl) (by decide) (c_X10_isUser _ _ trivial) ?_
  refine ab_if_eq (pc := 4) (tgt := 16) dX8_parentOf_4 (by decide) (fun c_4 => ?_) (fun c_4 => ?_)
  · refine ab_iconst (pc := 16) (v := -1) dX8_parentOf_16 (by decide) ?_
    refine xo_ir (pc := 17) dX8_parentOf_17 rfl rfl ?_
    (rw [FX8_parentOf]; (first | rw [if_pos c_4] | (dsimp only; rw [if_pos c_4])); (first | done | rfl | (dsimp only; done)))
  · replace hD := hD.2 c_4
    refine ab_aload_n (pc := 7) dX8_parentOf_7 rfl rfl ?_
    refine xo_gr (pc := 8) (a := (358 : Nat)) dX8_parentOf_8 fl_X8_9 (by decide) rfl rfl ?_
    refine ab_iload_n (pc := 11) dX8_parentOf_11 rfl rfl ?_
    obtain ⟨o1, hD⟩ := hD
    refine ab_nat1 (ab_nat o1) ?_
    obtain ⟨o2, hD⟩ := hD
    refine xo_ild (pc := 12) dX8_parentOf_12 (by decide) rfl o2 (by decide) ?_
    refine ab_goto (pc := 13) (tgt := 17) dX8_parentOf_13 (by decide) ?_
    refine xo_ir (pc := 17) dX8_parentOf_17 rfl rfl ?_
    (rw [FX8_parentOf]; (first | rw [if_neg c_4] | (dsimp only; rw [if_neg c_4])); (first | done | rfl | (dsimp only; done)))
def FX8_codeOf (u : Int32) (x : xD) : Int32 :=
  if (FX10_isUser (u)) = 0 then
    (nI (0))
  else
    (x.1 359 ((u).toNatClampNeg))
def DX8_codeOf (u : Int32) (x : xD) : Prop :=
  (((FX10_isUser (u)) = 0) →
    True) ∧
  (¬ ((FX10_isUser (u)) = 0) →
    (¬ (u) < 0) ∧
    (((u).toNatClampNeg) < 12) ∧
    True)
set_option maxRecDepth 100000 in
set_option maxHeartbeats 4000000 in
theorem c_X8_codeOf {tt : Prop} (u : Int32) (x : xD) (hD : DX8_codeOf u x) : ab_Met mX8_codeOf 1 0 0 tt [.ref (357 : Nat), .int (u)] (sX x) (xQi (FX8_codeOf u x, x)) := by
  refine ab_Met.of rfl (Nat.le_of_ble_eq_true rfl) ?_
  show xV mX8_codeOf 1 tt (xQi (FX8_codeOf u x, x)) 0 [some (.ref (357 : Nat)), some (.int (u))] [] x
  refine ab_iload_n (pc := 0) dX8_codeOf_0 rfl rfl ?_
  refine xo_invsN (N := mX10_isUser) (pc := 1) (d' := 0) (av := [_]) dX8_codeOf_1 nn_X8_25 fs_X10_isUser (Nat.le_of_ble_eq_true rfl) (by decide) (c_X10_isUser _ _ trivial) ?_
  refine ab_if_eq (pc := 4) (tgt := 16) dX8_codeOf_4 (by decide) (fun c_4 => ?_) (fun c_4 => ?_)
  · refine ab_iconst (pc := 16) (v := nI 0) dX8_codeOf_16 (by decide) ?_
    refine xo_ir (pc := 17) dX8_codeOf_17 rfl rfl ?_
    (rw [FX8_codeOf]; (first | rw [if_pos c_4] | (dsimp only; rw [if_pos c_4])); (first | done | rfl | (dsimp only; done)))
  · replace hD := hD.2 c_4
    refine ab_aload_n (pc := 7) dX8_codeOf_7 rfl rfl ?_
    refine xo_gr (pc := 8) (a := (359 : Nat)) dX8_codeOf_8 fl_X8_15 (by decide) rfl rfl ?_
    refine ab_iload_n (pc := 11) dX8_codeOf_11 rfl rfl ?_
    obtain ⟨o1, hD⟩ := hD
    refine ab_nat1 (ab_nat o1) ?_
    obtain ⟨o2, hD⟩ := hD
    refine xo_ild (pc := 12) dX8_codeOf_12 (by decide) rfl o2 (by decide) ?_
    refine ab_goto (pc := 13) (tgt := 17) dX8_codeOf_13 (by decide) ?_
    refine xo_ir (pc := 17) dX8_codeOf_17 rfl rfl ?_
    (rw [FX8_codeOf]; (first | rw [if_neg c_4] | (dsimp only; rw [if_neg c_4])); (first | done | rfl | (dsimp only; done)))
def FX8_waitFor (f : Int32) (w : Int32) (a : Int32) (x : xD) : xD :=
  let x1 : xD := (ab_up x.1 357 4 (nI (1)), x.2)
  let x3 : xD := (ab_up x1.1 357 5 (f), x1.2)
  let x4 : xD := (ab_up x3.1 357 6 (w), x3.2)
  let x5 : xD := (ab_up x4.1 357 7 (a), x4.2)
  x5
def DX8_waitFor (f : Int32) (w : Int32) (a : Int32) (x : xD) : Prop :=
  let x1 : xD := (ab_up x.1 357 4 (nI (1)), x.2)
  ((f) = 0 ∨ (f) = 1) ∧
  let x3 : xD := (ab_up x1.1 357 5 (f), x1.2)
  let x4 : xD := (ab_up x3.1 357 6 (w), x3.2)
  let x5 : xD := (ab_up x4.1 357 7 (a), x4.2)
  True
set_option maxRecDepth 100000 in
set_option maxHeartbeats 4000000 in
theorem c_X8_waitFor {tt : Prop} (f : Int32) (w : Int32) (a : Int32) (x : xD) (hD : DX8_waitFor f w a x) : ab_Met mX8_waitFor 0 0 0 tt [.ref (357 : Nat), .int (f), .int (w), .int (a)] (sX x) (xQv (FX8_waitFor f w a x)) := by
  refine ab_Met.of rfl (Nat.le_of_ble_eq_true rfl) ?_
  show xV mX8_waitFor 0 tt (xQv (FX8_waitFor f w a x)) 0 [some (.ref (357 : Nat)), some (.int (f)), some (.int (w)), some (.int (a))] [] x
  refine ab_aload_n (pc := 0) dX8_waitFor_0 rfl rfl ?_
  refine ab_iconst (pc := 1) (v := nI 1) dX8_waitFor_1 (by decide) ?_
  refine xo_pi (pc := 2) dX8_waitFor_2 fl_X8_35 (by decide) rfl (fun _ _ _ h => Or.inl (by cases h; rfl)) (ab_ok_b (Or.inr rfl)) ?_
  refine ab_aload_n (pc := 5) dX8_waitFor_5 rfl rfl ?_
  refine ab_iload_n (pc := 6) dX8_waitFor_6 rfl rfl ?_
  obtain ⟨o2, hD⟩ := hD
  refine xo_pi (pc := 7) dX8_waitFor_7 fl_X8_108 (by decide) rfl (fun _ _ _ h => Or.inl (by cases h; rfl)) (ab_ok_b o2) ?_
  refine ab_aload_n (pc := 10) dX8_waitFor_10 rfl rfl ?_
  refine ab_iload_n (pc := 11) dX8_waitFor_11 rfl rfl ?_
  refine xo_pi (pc := 12) dX8_waitFor_12 fl_X8_111 (by decide) rfl (fun _ _ _ h => Or.inl (by cases h; rfl)) (ab_ok_i _) ?_
  refine ab_aload_n (pc := 15) dX8_waitFor_15 rfl rfl ?_
  refine ab_iload_n (pc := 16) dX8_waitFor_16 rfl rfl ?_
  refine xo_pi (pc := 17) dX8_waitFor_17 fl_X8_114 (by decide) rfl (fun _ _ _ h => Or.inl (by cases h; rfl)) (ab_ok_i _) ?_
  refine xo_vr (pc := 20) dX8_waitFor_20 rfl ?_
  first | rfl | (rw [FX8_waitFor]; done) | (rw [FX8_waitFor]; rfl)
def FX8_collect (c : Int32) (x : xD) : Int32 × xD :=
  if (FX10_isUser (c)) = 0 then
    ((-10), x)
  else
    let x3 : xD := (ab_up x.1 360 ((c).toNatClampNeg) (nI (0)), x.2)
    let x6 : xD := (ab_up x3.1 358 ((c).toNatClampNeg) (-1), x3.2)
    ((((nI (256)) * (c)) + (x6.1 359 ((c).toNatClampNeg))), x6)
def DX8_collect (c : Int32) (x : xD) : Prop :=
  (((FX10_isUser (c)) = 0) →
    True) ∧
  (¬ ((FX10_isUser (c)) = 0) →
    (¬ (c) < 0) ∧
    (((c).toNatClampNeg) < 12) ∧
    let x3 : xD := (ab_up x.1 360 ((c).toNatClampNeg) (nI (0)), x.2)
    (¬ (c) < 0) ∧
    (((c).toNatClampNeg) < 12) ∧
    let x6 : xD := (ab_up x3.1 358 ((c).toNatClampNeg) (-1), x3.2)
    (¬ (c) < 0) ∧
    (((c).toNatClampNeg) < 12) ∧
    True)
set_option maxRecDepth 100000 in
set_option maxHeartbeats 4000000 in
theorem c_X8_collect {tt : Prop} (c : Int32) (x : xD) (hD : DX8_collect c x) : ab_Met mX8_collect 1 0 0 tt [.ref (357 : Nat), .int (c)] (sX x) (xQi (FX8_collect c x)) := by
  refine ab_Met.of rfl (Nat.le_of_ble_eq_true rfl) ?_
  show xV mX8_collect 1 tt (xQi (FX8_collect c x)) 0 [some (.ref (357 : Nat)), some (.int (c))] [] x
  refine ab_iload_n (pc := 0) dX8_collect_0 rfl rfl ?_
  refine xo_invsN (N := mX10_isUser) (pc := 1) (d' := 0) (av := [_]) dX8_collect_1 nn_X8_25 fs_X10_isUser (Nat.le_of_ble_eq_true rfl) (by decide) (c_X10_isUser _ _ trivial) ?_
  refine ab_if_ne (pc := 4) (tgt := 10) dX8_collect_4 (by decide) (fun c_4 => ?_) (fun c_4 => ?_)
  · replace hD := hD.2 c_4
    refine ab_aload_n (pc := 10) dX8_collect_10 rfl rfl ?_
    refine xo_gr (pc := 11) (a := (360 : Nat)) dX8_collect_11 fl_X8_18 (by decide) rfl rfl ?_
    refine ab_iload_n (pc := 14) dX8_collect_14 rfl rfl ?_
    refine ab_iconst (pc := 15) (v := nI 0) dX8_collect_15 (by decide) ?_
    obtain ⟨o1, hD⟩ := hD
    refine ab_nat3 (ab_nat o1) ?_
    obtain ⟨o2, hD⟩ := hD
    refine xo_zst (pc := 16) dX8_collect_16 (by decide) rfl o2 (by decide) (Or.inl rfl) ?_
    refine ab_aload_n (pc := 17) dX8_collect_17 rfl rfl ?_
    refine xo_gr (pc := 18) (a := (358 : Nat)) dX8_collect_18 fl_X8_9 (by decide) rfl rfl ?_
    refine ab_iload_n (pc := 21) dX8_collect_21 rfl rfl ?_
    refine ab_iconst (pc := 22) (v := -1) dX8_collect_22 (by decide) ?_
    obtain ⟨o4, hD⟩ := hD
    refine ab_nat3 (ab_nat o4) ?_
    obtain ⟨o5, hD⟩ := hD
    refine xo_ist (pc := 23) dX8_collect_23 (by decide) rfl o5 (by decide) ?_
    refine ab_sipush (pc := 24) (v := nI 256) dX8_collect_24 (by decide) ?_
    refine ab_iload_n (pc := 27) dX8_collect_27 rfl rfl ?_
    refine ab_imul (pc := 28) dX8_collect_28 ?_
    refine ab_aload_n (pc := 29) dX8_collect_29 rfl rfl ?_
    refine xo_gr (pc := 30) (a := (359 : Nat)) dX8_collect_30 fl_X8_15 (by decide) rfl rfl ?_
    refine ab_iload_n (pc := 33) dX8_collect_33 rfl rfl ?_
    obtain ⟨o7, hD⟩ := hD
    refine ab_nat1 (ab_nat o7) ?_
    obtain ⟨o8, hD⟩ := hD
    refine xo_ild (pc := 34) dX8_collect_34 (by decide) rfl o8 (by decide) ?_
    refine ab_iadd (pc := 35) dX8_collect_35 ?_
    refine xo_ir (pc := 36) dX8_collect_36 rfl rfl ?_
    (rw [FX8_collect]; (first | rw [if_neg c_4] | (dsimp only; rw [if_neg c_4])); (first | done | rfl | (dsimp only; done)))
  · refine ab_bipush (pc := 7) (v := -10) dX8_collect_7 (by decide) ?_
    refine xo_ir (pc := 9) dX8_collect_9 rfl rfl ?_
    (rw [FX8_collect]; (first | rw [if_pos c_4] | (dsimp only; rw [if_pos c_4])); (first | done | rfl | (dsimp only; done)))
def FX8_leaveChildren_2 : Nat → Int32 → Nat → xD → xD
  | 0, _, _, x => x
  | n + 1, p, a2, x =>
    if 12 ≤ a2 then
      x
    else
      if (x.1 358 a2) = (p) then
        let x4 : xD := (ab_up x.1 358 a2 (-1), x.2)
        let x6 : xD := (ab_up x4.1 360 a2 (nI (0)), x4.2)
        FX8_leaveChildren_2 n p (a2 + 1) x6
      else
        FX8_leaveChildren_2 n p (a2 + 1) x
def DX8_leaveChildren_2 : Nat → Int32 → Nat → xD → Prop
  | 0, _, _, _ => False
  | n + 1, p, a2, x =>
    (a2 < 2147483648) ∧
    ((12 ≤ a2) →
      True) ∧
    (¬ (12 ≤ a2) →
      (a2 < 12) ∧
      (((x.1 358 a2) = (p)) →
        (a2 < 12) ∧
        let x4 : xD := (ab_up x.1 358 a2 (-1), x.2)
        (a2 < 12) ∧
        let x6 : xD := (ab_up x4.1 360 a2 (nI (0)), x4.2)
        DX8_leaveChildren_2 n p (a2 + 1) x6) ∧
      (¬ ((x.1 358 a2) = (p)) →
        DX8_leaveChildren_2 n p (a2 + 1) x))
set_option maxRecDepth 100000 in
set_option maxHeartbeats 4000000 in
theorem w_X8_leaveChildren_2 {tt : Prop} : ∀ (n : Nat) (p : Int32) (a2 : Nat) (x : xD) (hD : DX8_leaveChildren_2 n p a2 x), xV mX8_leaveChildren 0 tt (xQv (FX8_leaveChildren_2 n p a2 x)) 2 [some (.ref (357 : Nat)), some (.int (p)), some (.int (nI (a2)))] [] x := by
  intro n
  induction n with
  | zero => intros; rename_i hD; exact hD.elim
  | succ n ih =>
    intro p a2 x hD
    refine ab_iload_n (pc := 2) dX8_leaveChildren_2 rfl rfl ?_
    refine ab_bipush (pc := 3) (v := nI 12) dX8_leaveChildren_3 (by decide) ?_
    obtain ⟨o1, hD⟩ := hD
    refine ab_icmp_geN (pc := 5) (tgt := 38) dX8_leaveChildren_5 (by decide) o1 (by decide) (fun c_5 => ?_) (fun c_5 => ?_)
    · refine xo_vr (pc := 38) dX8_leaveChildren_38 rfl ?_
      (rw [FX8_leaveChildren_2]; (first | rw [if_pos c_5] | (dsimp only; rw [if_pos c_5])); (first | done | rfl | (dsimp only; done)))
    · replace hD := hD.2 c_5
      refine ab_aload_n (pc := 8) dX8_leaveChildren_8 rfl rfl ?_
      refine xo_gr (pc := 9) (a := (358 : Nat)) dX8_leaveChildren_9 fl_X8_9 (by decide) rfl rfl ?_
      refine ab_iload_n (pc := 12) dX8_leaveChildren_12 rfl rfl ?_
      obtain ⟨o2, hD⟩ := hD
      refine xo_ild (pc := 13) dX8_leaveChildren_13 (by decide) rfl o2 (by decide) ?_
      refine ab_iload_n (pc := 14) dX8_leaveChildren_14 rfl rfl ?_
      refine ab_icmp_ne (pc := 15) (tgt := 32) dX8_leaveChildren_15 (by decide) (fun c_15 => ?_) (fun c_15 => ?_)
      · replace hD := hD.2 c_15
        refine ab_iinc (pc := 32) dX8_leaveChildren_32 rfl (ab_inc _) (Nat.le_of_ble_eq_true rfl) rfl ?_
        refine ab_goto (pc := 35) (tgt := 2) dX8_leaveChildren_35 (by decide) ?_
        refine xo_eqv ?_ (ih _ _ _ hD)
        (rw [FX8_leaveChildren_2]; (first | rw [if_neg c_5] | (dsimp only; rw [if_neg c_5])); (first | rw [if_neg c_15] | (dsimp only; rw [if_neg c_15])); (first | done | rfl | (dsimp only; done)))
      · replace hD := hD.1 c_15
        refine ab_aload_n (pc := 18) dX8_leaveChildren_18 rfl rfl ?_
        refine xo_gr (pc := 19) (a := (358 : Nat)) dX8_leaveChildren_19 fl_X8_9 (by decide) rfl rfl ?_
        refine ab_iload_n (pc := 22) dX8_leaveChildren_22 rfl rfl ?_
        refine ab_iconst (pc := 23) (v := -1) dX8_leaveChildren_23 (by decide) ?_
        obtain ⟨o3, hD⟩ := hD
        refine xo_ist (pc := 24) dX8_leaveChildren_24 (by decide) rfl o3 (by decide) ?_
        refine ab_aload_n (pc := 25) dX8_leaveChildren_25 rfl rfl ?_
        refine xo_gr (pc := 26) (a := (360 : Nat)) dX8_leaveChildren_26 fl_X8_18 (by decide) rfl rfl ?_
        refine ab_iload_n (pc := 29) dX8_leaveChildren_29 rfl rfl ?_
        refine ab_iconst (pc := 30) (v := nI 0) dX8_leaveChildren_30 (by decide) ?_
        obtain ⟨o5, hD⟩ := hD
        refine xo_zst (pc := 31) dX8_leaveChildren_31 (by decide) rfl o5 (by decide) (Or.inl rfl) ?_
        refine ab_iinc (pc := 32) dX8_leaveChildren_32 rfl (ab_inc _) (Nat.le_of_ble_eq_true rfl) rfl ?_
        refine ab_goto (pc := 35) (tgt := 2) dX8_leaveChildren_35 (by decide) ?_
        refine xo_eqv ?_ (ih _ _ _ hD)
        (rw [FX8_leaveChildren_2]; (first | rw [if_neg c_5] | (dsimp only; rw [if_neg c_5])); (first | rw [if_pos c_15] | (dsimp only; rw [if_pos c_15])); (first | done | rfl | (dsimp only; done)))
def FX8_leaveChildren (p : Int32) (x : xD) : xD :=
  FX8_leaveChildren_2 9 p 4 x
def DX8_leaveChildren (p : Int32) (x : xD) : Prop :=
  DX8_leaveChildren_2 9 p 4 x
set_option maxRecDepth 100000 in
set_option maxHeartbeats 4000000 in
theorem c_X8_leaveChildren {tt : Prop} (p : Int32) (x : xD) (hD : DX8_leaveChildren p x) : ab_Met mX8_leaveChildren 0 0 0 tt [.ref (357 : Nat), .int (p)] (sX x) (xQv (FX8_leaveChildren p x)) := by
  refine ab_Met.of rfl (Nat.le_of_ble_eq_true rfl) ?_
  show xV mX8_leaveChildren 0 tt (xQv (FX8_leaveChildren p x)) 0 [some (.ref (357 : Nat)), some (.int (p)), none] [] x
  refine ab_iconst (pc := 0) (v := nI 4) dX8_leaveChildren_0 (by decide) ?_
  refine ab_istore_n (pc := 1) dX8_leaveChildren_1 rfl (Nat.le_of_ble_eq_true rfl) rfl ?_
  refine xo_eqv ?_ (w_X8_leaveChildren_2 9 _ _ _ hD)
  first | rfl | (rw [FX8_leaveChildren]; done) | (rw [FX8_leaveChildren]; rfl)
def FX8_fork_2 : Nat → Int32 → Nat → xD → xD
  | 0, _, _, x => x
  | n + 1, u, a3, x =>
    if 12 ≤ a3 then
      let z4 := FX1_send (nI (3)) (u) (nI (50)) (-9) (nI (0)) x
      z4
    else
      if (x.1 3 a3) = 0 then
        if (x.1 360 a3) = 0 then
          let z9 := FX8_waitFor (nI (1)) (nI (a3)) (u) x
          let z12 := FX1_send (nI (3)) (nI (2)) (nI (30)) (u) (nI (a3)) z9
          z12
        else
          FX8_fork_2 n u (a3 + 1) x
      else
        FX8_fork_2 n u (a3 + 1) x
def DX8_fork_2 : Nat → Int32 → Nat → xD → Prop
  | 0, _, _, _ => False
  | n + 1, u, a3, x =>
    (a3 < 2147483648) ∧
    ((12 ≤ a3) →
      (DX1_send (nI (3)) (u) (nI (50)) (-9) (nI (0)) x) ∧
      let z4 := FX1_send (nI (3)) (u) (nI (50)) (-9) (nI (0)) x
      True) ∧
    (¬ (12 ≤ a3) →
      (a3 < 12) ∧
      (((x.1 3 a3) = 0) →
        (a3 < 12) ∧
        (((x.1 360 a3) = 0) →
          (DX8_waitFor (nI (1)) (nI (a3)) (u) x) ∧
          let z9 := FX8_waitFor (nI (1)) (nI (a3)) (u) x
          (DX1_send (nI (3)) (nI (2)) (nI (30)) (u) (nI (a3)) z9) ∧
          let z12 := FX1_send (nI (3)) (nI (2)) (nI (30)) (u) (nI (a3)) z9
          True) ∧
        (¬ ((x.1 360 a3) = 0) →
          DX8_fork_2 n u (a3 + 1) x)) ∧
      (¬ ((x.1 3 a3) = 0) →
        DX8_fork_2 n u (a3 + 1) x))
set_option maxRecDepth 100000 in
set_option maxHeartbeats 4000000 in
theorem w_X8_fork_2 {tt : Prop} : ∀ (n : Nat) (u : Int32) (a3 : Nat) (x : xD) (hD : DX8_fork_2 n u a3 x), xV mX8_fork 3 tt (xQv (FX8_fork_2 n u a3 x)) 2 [some (.ref (357 : Nat)), some (.ref (1 : Nat)), some (.int (u)), some (.int (nI (a3)))] [] x := by
  intro n
  induction n with
  | zero => intros; rename_i hD; exact hD.elim
  | succ n ih =>
    intro u a3 x hD
    refine ab_iload_n (pc := 2) dX8_fork_2 rfl rfl ?_
    refine ab_bipush (pc := 3) (v := nI 12) dX8_fork_3 (by decide) ?_
    obtain ⟨o1, hD⟩ := hD
    refine ab_icmp_geN (pc := 5) (tgt := 50) dX8_fork_5 (by decide) o1 (by decide) (fun c_5 => ?_) (fun c_5 => ?_)
    · replace hD := hD.1 c_5
      refine ab_aload_n (pc := 50) dX8_fork_50 rfl rfl ?_
      refine ab_iconst (pc := 51) (v := nI 3) dX8_fork_51 (by decide) ?_
      refine ab_iload_n (pc := 52) dX8_fork_52 rfl rfl ?_
      refine ab_bipush (pc := 53) (v := nI 50) dX8_fork_53 (by decide) ?_
      refine ab_bipush (pc := 55) (v := -9) dX8_fork_55 (by decide) ?_
      refine ab_iconst (pc := 57) (v := nI 0) dX8_fork_57 (by decide) ?_
      obtain ⟨o2, hD⟩ := hD
      have e3 := c_X1_send (tt := tt) _ _ _ _ _ _ o2
      refine xo_invv (N := mX1_send) (pc := 58) (d' := 2) (av := [_, _, _, _, _]) dX8_fork_58 ml_X8_88 fv_X1_send (by decide) (Nat.le_of_ble_eq_true rfl) (by decide) e3 ?_
      refine xo_vr (pc := 61) dX8_fork_61 rfl ?_
      (rw [FX8_fork_2]; (first | rw [if_pos c_5] | (dsimp only; rw [if_pos c_5])); (first | done | rfl | (dsimp only; done)))
    · replace hD := hD.2 c_5
      refine ab_aload_n (pc := 8) dX8_fork_8 rfl rfl ?_
      refine xo_gr (pc := 9) (a := (3 : Nat)) dX8_fork_9 fl_X8_85 (by decide) rfl rfl ?_
      refine ab_iload_n (pc := 12) dX8_fork_12 rfl rfl ?_
      obtain ⟨o5, hD⟩ := hD
      refine xo_zld (pc := 13) dX8_fork_13 (by decide) rfl o5 (by decide) ?_
      refine ab_if_ne (pc := 14) (tgt := 44) dX8_fork_14 (by decide) (fun c_14 => ?_) (fun c_14 => ?_)
      · replace hD := hD.2 c_14
        refine ab_iinc (pc := 44) dX8_fork_44 rfl (ab_inc _) (Nat.le_of_ble_eq_true rfl) rfl ?_
        refine ab_goto (pc := 47) (tgt := 2) dX8_fork_47 (by decide) ?_
        refine xo_eqv ?_ (ih _ _ _ hD)
        (rw [FX8_fork_2]; (first | rw [if_neg c_5] | (dsimp only; rw [if_neg c_5])); (first | rw [if_neg c_14] | (dsimp only; rw [if_neg c_14])); (first | done | rfl | (dsimp only; done)))
      · replace hD := hD.1 c_14
        refine ab_aload_n (pc := 17) dX8_fork_17 rfl rfl ?_
        refine xo_gr (pc := 18) (a := (360 : Nat)) dX8_fork_18 fl_X8_18 (by decide) rfl rfl ?_
        refine ab_iload_n (pc := 21) dX8_fork_21 rfl rfl ?_
        obtain ⟨o6, hD⟩ := hD
        refine xo_zld (pc := 22) dX8_fork_22 (by decide) rfl o6 (by decide) ?_
        refine ab_if_ne (pc := 23) (tgt := 44) dX8_fork_23 (by decide) (fun c_23 => ?_) (fun c_23 => ?_)
        · replace hD := hD.2 c_23
          refine ab_iinc (pc := 44) dX8_fork_44 rfl (ab_inc _) (Nat.le_of_ble_eq_true rfl) rfl ?_
          refine ab_goto (pc := 47) (tgt := 2) dX8_fork_47 (by decide) ?_
          refine xo_eqv ?_ (ih _ _ _ hD)
          (rw [FX8_fork_2]; (first | rw [if_neg c_5] | (dsimp only; rw [if_neg c_5])); (first | rw [if_pos c_14] | (dsimp only; rw [if_pos c_14])); (first | rw [if_neg c_23] | (dsimp only; rw [if_neg c_23])); (first | done | rfl | (dsimp only; done)))
        · replace hD := hD.1 c_23
          refine ab_aload_n (pc := 26) dX8_fork_26 rfl rfl ?_
          refine ab_iconst (pc := 27) (v := nI 1) dX8_fork_27 (by decide) ?_
          refine ab_iload_n (pc := 28) dX8_fork_28 rfl rfl ?_
          refine ab_iload_n (pc := 29) dX8_fork_29 rfl rfl ?_
          obtain ⟨o7, hD⟩ := hD
          have e8 := c_X8_waitFor (tt := tt) _ _ _ _ o7
          refine xo_invv (N := mX8_waitFor) (pc := 30) (d' := 0) (av := [_, _, _]) dX8_fork_30 ml_X8_92 fv_X8_waitFor (by decide) (Nat.le_of_ble_eq_true rfl) (by decide) e8 ?_
          refine ab_aload_n (pc := 33) dX8_fork_33 rfl rfl ?_
          refine ab_iconst (pc := 34) (v := nI 3) dX8_fork_34 (by decide) ?_
          refine ab_iconst (pc := 35) (v := nI 2) dX8_fork_35 (by decide) ?_
          refine ab_bipush (pc := 36) (v := nI 30) dX8_fork_36 (by decide) ?_
          refine ab_iload_n (pc := 38) dX8_fork_38 rfl rfl ?_
          refine ab_iload_n (pc := 39) dX8_fork_39 rfl rfl ?_
          obtain ⟨o10, hD⟩ := hD
          have e11 := c_X1_send (tt := tt) _ _ _ _ _ _ o10
          refine xo_invv (N := mX1_send) (pc := 40) (d' := 2) (av := [_, _, _, _, _]) dX8_fork_40 ml_X8_88 fv_X1_send (by decide) (Nat.le_of_ble_eq_true rfl) (by decide) e11 ?_
          refine xo_vr (pc := 43) dX8_fork_43 rfl ?_
          (rw [FX8_fork_2]; (first | rw [if_neg c_5] | (dsimp only; rw [if_neg c_5])); (first | rw [if_pos c_14] | (dsimp only; rw [if_pos c_14])); (first | rw [if_pos c_23] | (dsimp only; rw [if_pos c_23])); (first | done | rfl | (dsimp only; done)))
def FX8_fork (u : Int32) (x : xD) : xD :=
  FX8_fork_2 9 u 5 x
def DX8_fork (u : Int32) (x : xD) : Prop :=
  DX8_fork_2 9 u 5 x
set_option maxRecDepth 100000 in
set_option maxHeartbeats 4000000 in
theorem c_X8_fork {tt : Prop} (u : Int32) (x : xD) (hD : DX8_fork u x) : ab_Met mX8_fork 3 0 0 tt [.ref (357 : Nat), .ref (1 : Nat), .int (u)] (sX x) (xQv (FX8_fork u x)) := by
  refine ab_Met.of rfl (Nat.le_of_ble_eq_true rfl) ?_
  show xV mX8_fork 3 tt (xQv (FX8_fork u x)) 0 [some (.ref (357 : Nat)), some (.ref (1 : Nat)), some (.int (u)), none] [] x
  refine ab_iconst (pc := 0) (v := nI 5) dX8_fork_0 (by decide) ?_
  refine ab_istore_n (pc := 1) dX8_fork_1 rfl (Nat.le_of_ble_eq_true rfl) rfl ?_
  refine xo_eqv ?_ (w_X8_fork_2 9 _ _ _ hD)
  first | rfl | (rw [FX8_fork]; done) | (rw [FX8_fork]; rfl)
def FX8_end (u : Int32) (k : Int32) (l : Int32) (x : xD) : xD :=
  if (FX10_isUser (u)) = 0 then
    x
  else
    let x3 : xD := (ab_up x.1 360 ((u).toNatClampNeg) (nI (1)), x.2)
    let x6 : xD := (ab_up x3.1 359 ((u).toNatClampNeg) (k), x3.2)
    let x9 : xD := (ab_up x6.1 361 ((u).toNatClampNeg) (nI (0)), x6.2)
    let z12 := FX9_setCall (u) (nI (0)) x9
    let z15 := FX1_end (u) z12
    let z18 := FX0_dropFrom 63 (u) z15
    let z21 := FX0_dropFrom 91 (u) z18
    let z24 := FX8_waitFor (nI (0)) (u) (l) z21
    let z27 := FX1_send (nI (3)) (nI (2)) (nI (31)) (u) (nI (0)) z24
    z27
def DX8_end (u : Int32) (k : Int32) (l : Int32) (x : xD) : Prop :=
  (((FX10_isUser (u)) = 0) →
    True) ∧
  (¬ ((FX10_isUser (u)) = 0) →
    (¬ (u) < 0) ∧
    (((u).toNatClampNeg) < 12) ∧
    let x3 : xD := (ab_up x.1 360 ((u).toNatClampNeg) (nI (1)), x.2)
    (¬ (u) < 0) ∧
    (((u).toNatClampNeg) < 12) ∧
    let x6 : xD := (ab_up x3.1 359 ((u).toNatClampNeg) (k), x3.2)
    (¬ (u) < 0) ∧
    (((u).toNatClampNeg) < 12) ∧
    let x9 : xD := (ab_up x6.1 361 ((u).toNatClampNeg) (nI (0)), x6.2)
    (DX9_setCall (u) (nI (0)) x9) ∧
    let z12 := FX9_setCall (u) (nI (0)) x9
    (DX1_end (u) z12) ∧
    let z15 := FX1_end (u) z12
    (DX0_dropFrom 63 (u) z15) ∧
    let z18 := FX0_dropFrom 63 (u) z15
    (DX0_dropFrom 91 (u) z18) ∧
    let z21 := FX0_dropFrom 91 (u) z18
    (DX8_waitFor (nI (0)) (u) (l) z21) ∧
    let z24 := FX8_waitFor (nI (0)) (u) (l) z21
    (DX1_send (nI (3)) (nI (2)) (nI (31)) (u) (nI (0)) z24) ∧
    let z27 := FX1_send (nI (3)) (nI (2)) (nI (31)) (u) (nI (0)) z24
    True)
set_option maxRecDepth 100000 in
set_option maxHeartbeats 4000000 in
theorem c_X8_end {tt : Prop} (u : Int32) (k : Int32) (l : Int32) (x : xD) (hD : DX8_end u k l x) : ab_Met mX8_end 3 0 0 tt [.ref (357 : Nat), .ref (1 : Nat), .ref (362 : Nat), .int (u), .int (k), .int (l)] (sX x) (xQv (FX8_end u k l x)) := by
  refine ab_Met.of rfl (Nat.le_of_ble_eq_true rfl) ?_
  show xV mX8_end 3 tt (xQv (FX8_end u k l x)) 0 [some (.ref (357 : Nat)), some (.ref (1 : Nat)), some (.ref (362 : Nat)), some (.int (u)), some (.int (k)), some (.int (l))] [] x
  refine ab_iload_n (pc := 0) dX8_end_0 rfl rfl ?_
  refine xo_invsN (N := mX10_isUser) (pc := 1) (d' := 0) (av := [_]) dX8_end_1 nn_X8_25 fs_X10_isUser (Nat.le_of_ble_eq_true rfl) (by decide) (c_X10_isUser _ _ trivial) ?_
  refine ab_if_ne (pc := 4) (tgt := 8) dX8_end_4 (by decide) (fun c_4 => ?_) (fun c_4 => ?_)
  · replace hD := hD.2 c_4
    refine ab_aload_n (pc := 8) dX8_end_8 rfl rfl ?_
    refine xo_gr (pc := 9) (a := (360 : Nat)) dX8_end_9 fl_X8_18 (by decide) rfl rfl ?_
    refine ab_iload_n (pc := 12) dX8_end_12 rfl rfl ?_
    refine ab_iconst (pc := 13) (v := nI 1) dX8_end_13 (by decide) ?_
    obtain ⟨o1, hD⟩ := hD
    refine ab_nat3 (ab_nat o1) ?_
    obtain ⟨o2, hD⟩ := hD
    refine xo_zst (pc := 14) dX8_end_14 (by decide) rfl o2 (by decide) (Or.inr rfl) ?_
    refine ab_aload_n (pc := 15) dX8_end_15 rfl rfl ?_
    refine xo_gr (pc := 16) (a := (359 : Nat)) dX8_end_16 fl_X8_15 (by decide) rfl rfl ?_
    refine ab_iload_n (pc := 19) dX8_end_19 rfl rfl ?_
    refine ab_iload (pc := 20) dX8_end_20 rfl ?_
    obtain ⟨o4, hD⟩ := hD
    refine ab_nat3 (ab_nat o4) ?_
    obtain ⟨o5, hD⟩ := hD
    refine xo_ist (pc := 22) dX8_end_22 (by decide) rfl o5 (by decide) ?_
    refine ab_aload_n (pc := 23) dX8_end_23 rfl rfl ?_
    refine xo_gr (pc := 24) (a := (361 : Nat)) dX8_end_24 fl_X8_22 (by decide) rfl rfl ?_
    refine ab_iload_n (pc := 27) dX8_end_27 rfl rfl ?_
    refine ab_iconst (pc := 28) (v := nI 0) dX8_end_28 (by decide) ?_
    obtain ⟨o7, hD⟩ := hD
    refine ab_nat3 (ab_nat o7) ?_
    obtain ⟨o8, hD⟩ := hD
    refine xo_zst (pc := 29) dX8_end_29 (by decide) rfl o8 (by decide) (Or.inl rfl) ?_
    refine ab_aload_n (pc := 30) dX8_end_30 rfl rfl ?_
    refine ab_iload_n (pc := 31) dX8_end_31 rfl rfl ?_
    refine ab_iconst (pc := 32) (v := nI 0) dX8_end_32 (by decide) ?_
    obtain ⟨o10, hD⟩ := hD
    have e11 := c_X9_setCall (tt := tt) _ _ _ o10
    refine xo_invv (N := mX9_setCall) (pc := 33) (d' := 1) (av := [_, _]) dX8_end_33 ml_X8_96 fv_X9_setCall (by decide) (Nat.le_of_ble_eq_true rfl) (by decide) e11 ?_
    refine ab_aload_n (pc := 36) dX8_end_36 rfl rfl ?_
    refine ab_iload_n (pc := 37) dX8_end_37 rfl rfl ?_
    obtain ⟨o13, hD⟩ := hD
    have e14 := c_X1_end (tt := tt) _ _ o13
    refine xo_invv (N := mX1_end) (pc := 38) (d' := 1) (av := [_]) dX8_end_38 ml_X8_102 fv_X1_end (by decide) (Nat.le_of_ble_eq_true rfl) (by decide) e14 ?_
    refine ab_aload_n (pc := 41) dX8_end_41 rfl rfl ?_
    refine xo_gr (pc := 42) (a := (2 : Nat)) dX8_end_42 fl_X8_29 (by decide) rfl rfl ?_
    refine ab_iconst (pc := 45) (v := nI 2) dX8_end_45 (by decide) ?_
    refine xo_ald (pc := 46) dX8_end_46 (by decide) (Or.inr rfl) rfl (by decide) (crX_box (by decide)) ?_
    refine ab_top (w := .ref (63 : Nat)) rfl ?_
    refine ab_iload_n (pc := 47) dX8_end_47 rfl rfl ?_
    obtain ⟨o16, hD⟩ := hD
    have e17 := c_X0_dropFrom (tt := tt) _ _ _ o16
    refine xo_invv (N := mX0_dropFrom) (pc := 48) (d' := 1) (av := [_]) dX8_end_48 ml_X8_105 fv_X0_dropFrom (by decide) (Nat.le_of_ble_eq_true rfl) (by decide) e17 ?_
    refine ab_aload_n (pc := 51) dX8_end_51 rfl rfl ?_
    refine xo_gr (pc := 52) (a := (2 : Nat)) dX8_end_52 fl_X8_29 (by decide) rfl rfl ?_
    refine ab_iconst (pc := 55) (v := nI 3) dX8_end_55 (by decide) ?_
    refine xo_ald (pc := 56) dX8_end_56 (by decide) (Or.inr rfl) rfl (by decide) (crX_box (by decide)) ?_
    refine ab_top (w := .ref (91 : Nat)) rfl ?_
    refine ab_iload_n (pc := 57) dX8_end_57 rfl rfl ?_
    obtain ⟨o19, hD⟩ := hD
    have e20 := c_X0_dropFrom (tt := tt) _ _ _ o19
    refine xo_invv (N := mX0_dropFrom) (pc := 58) (d' := 1) (av := [_]) dX8_end_58 ml_X8_105 fv_X0_dropFrom (by decide) (Nat.le_of_ble_eq_true rfl) (by decide) e20 ?_
    refine ab_aload_n (pc := 61) dX8_end_61 rfl rfl ?_
    refine ab_iconst (pc := 62) (v := nI 0) dX8_end_62 (by decide) ?_
    refine ab_iload_n (pc := 63) dX8_end_63 rfl rfl ?_
    refine ab_iload (pc := 64) dX8_end_64 rfl ?_
    obtain ⟨o22, hD⟩ := hD
    have e23 := c_X8_waitFor (tt := tt) _ _ _ _ o22
    refine xo_invv (N := mX8_waitFor) (pc := 66) (d' := 0) (av := [_, _, _]) dX8_end_66 ml_X8_92 fv_X8_waitFor (by decide) (Nat.le_of_ble_eq_true rfl) (by decide) e23 ?_
    refine ab_aload_n (pc := 69) dX8_end_69 rfl rfl ?_
    refine ab_iconst (pc := 70) (v := nI 3) dX8_end_70 (by decide) ?_
    refine ab_iconst (pc := 71) (v := nI 2) dX8_end_71 (by decide) ?_
    refine ab_bipush (pc := 72) (v := nI 31) dX8_end_72 (by decide) ?_
    refine ab_iload_n (pc := 74) dX8_end_74 rfl rfl ?_
    refine ab_iconst (pc := 75) (v := nI 0) dX8_end_75 (by decide) ?_
    obtain ⟨o25, hD⟩ := hD
    have e26 := c_X1_send (tt := tt) _ _ _ _ _ _ o25
    refine xo_invv (N := mX1_send) (pc := 76) (d' := 2) (av := [_, _, _, _, _]) dX8_end_76 ml_X8_88 fv_X1_send (by decide) (Nat.le_of_ble_eq_true rfl) (by decide) e26 ?_
    refine xo_vr (pc := 79) dX8_end_79 rfl ?_
    (rw [FX8_end]; (first | rw [if_neg c_4] | (dsimp only; rw [if_neg c_4])); (first | done | rfl | (dsimp only; done)))
  · refine xo_vr (pc := 7) dX8_end_7 rfl ?_
    (rw [FX8_end]; (first | rw [if_pos c_4] | (dsimp only; rw [if_pos c_4])); (first | done | rfl | (dsimp only; done)))
def FX8_await_5 : Nat → Int32 → Int32 → Nat → xD → xD
  | 0, _, _, _, x => x
  | n + 1, u, a3, a4, x =>
    if 12 ≤ a4 then
      if (a3) = 0 then
        let z4 := FX1_send (nI (3)) (u) (nI (50)) (-10) (nI (0)) x
        z4
      else
        let x7 : xD := (ab_up x.1 361 ((u).toNatClampNeg) (nI (1)), x.2)
        x7
    else
      if (x.1 358 a4) = (u) then
        if (x.1 360 a4) = 0 then
          FX8_await_5 n u (nI (1)) (a4 + 1) x
        else
          let z12 := FX8_collect (nI (a4)) x
          let z15 := FX1_send (nI (3)) (u) (nI (50)) (z12.1) (nI (0)) z12.2
          z15
      else
        FX8_await_5 n u (a3) (a4 + 1) x
def DX8_await_5 : Nat → Int32 → Int32 → Nat → xD → Prop
  | 0, _, _, _, _ => False
  | n + 1, u, a3, a4, x =>
    (a4 < 2147483648) ∧
    ((12 ≤ a4) →
      (((a3) = 0) →
        (DX1_send (nI (3)) (u) (nI (50)) (-10) (nI (0)) x) ∧
        let z4 := FX1_send (nI (3)) (u) (nI (50)) (-10) (nI (0)) x
        True) ∧
      (¬ ((a3) = 0) →
        (¬ (u) < 0) ∧
        (((u).toNatClampNeg) < 12) ∧
        let x7 : xD := (ab_up x.1 361 ((u).toNatClampNeg) (nI (1)), x.2)
        True)) ∧
    (¬ (12 ≤ a4) →
      (a4 < 12) ∧
      (((x.1 358 a4) = (u)) →
        (a4 < 12) ∧
        (((x.1 360 a4) = 0) →
          DX8_await_5 n u (nI (1)) (a4 + 1) x) ∧
        (¬ ((x.1 360 a4) = 0) →
          (DX8_collect (nI (a4)) x) ∧
          let z12 := FX8_collect (nI (a4)) x
          (DX1_send (nI (3)) (u) (nI (50)) (z12.1) (nI (0)) z12.2) ∧
          let z15 := FX1_send (nI (3)) (u) (nI (50)) (z12.1) (nI (0)) z12.2
          True)) ∧
      (¬ ((x.1 358 a4) = (u)) →
        DX8_await_5 n u (a3) (a4 + 1) x))
set_option maxRecDepth 100000 in
set_option maxHeartbeats 4000000 in
theorem w_X8_await_5 {tt : Prop} : ∀ (n : Nat) (u : Int32) (a3 : Int32) (a4 : Nat) (x : xD) (hD : DX8_await_5 n u a3 a4 x), xV mX8_await 3 tt (xQv (FX8_await_5 n u a3 a4 x)) 5 [some (.ref (357 : Nat)), some (.ref (1 : Nat)), some (.int (u)), some (.int (a3)), some (.int (nI (a4)))] [] x := by
  intro n
  induction n with
  | zero => intros; rename_i hD; exact hD.elim
  | succ n ih =>
    intro u a3 a4 x hD
    refine ab_iload (pc := 5) dX8_await_5 rfl ?_
    refine ab_bipush (pc := 7) (v := nI 12) dX8_await_7 (by decide) ?_
    obtain ⟨o1, hD⟩ := hD
    refine ab_icmp_geN (pc := 9) (tgt := 57) dX8_await_9 (by decide) o1 (by decide) (fun c_9 => ?_) (fun c_9 => ?_)
    · replace hD := hD.1 c_9
      refine ab_iload_n (pc := 57) dX8_await_57 rfl rfl ?_
      refine ab_if_eq (pc := 58) (tgt := 71) dX8_await_58 (by decide) (fun c_58 => ?_) (fun c_58 => ?_)
      · replace hD := hD.1 c_58
        refine ab_aload_n (pc := 71) dX8_await_71 rfl rfl ?_
        refine ab_iconst (pc := 72) (v := nI 3) dX8_await_72 (by decide) ?_
        refine ab_iload_n (pc := 73) dX8_await_73 rfl rfl ?_
        refine ab_bipush (pc := 74) (v := nI 50) dX8_await_74 (by decide) ?_
        refine ab_bipush (pc := 76) (v := -10) dX8_await_76 (by decide) ?_
        refine ab_iconst (pc := 78) (v := nI 0) dX8_await_78 (by decide) ?_
        obtain ⟨o2, hD⟩ := hD
        have e3 := c_X1_send (tt := tt) _ _ _ _ _ _ o2
        refine xo_invv (N := mX1_send) (pc := 79) (d' := 2) (av := [_, _, _, _, _]) dX8_await_79 ml_X8_88 fv_X1_send (by decide) (Nat.le_of_ble_eq_true rfl) (by decide) e3 ?_
        refine xo_vr (pc := 82) dX8_await_82 rfl ?_
        (rw [FX8_await_5]; (first | rw [if_pos c_9] | (dsimp only; rw [if_pos c_9])); (first | rw [if_pos c_58] | (dsimp only; rw [if_pos c_58])); (first | done | rfl | (dsimp only; done)))
      · replace hD := hD.2 c_58
        refine ab_aload_n (pc := 61) dX8_await_61 rfl rfl ?_
        refine xo_gr (pc := 62) (a := (361 : Nat)) dX8_await_62 fl_X8_22 (by decide) rfl rfl ?_
        refine ab_iload_n (pc := 65) dX8_await_65 rfl rfl ?_
        refine ab_iconst (pc := 66) (v := nI 1) dX8_await_66 (by decide) ?_
        obtain ⟨o5, hD⟩ := hD
        refine ab_nat3 (ab_nat o5) ?_
        obtain ⟨o6, hD⟩ := hD
        refine xo_zst (pc := 67) dX8_await_67 (by decide) rfl o6 (by decide) (Or.inr rfl) ?_
        refine ab_goto (pc := 68) (tgt := 82) dX8_await_68 (by decide) ?_
        refine xo_vr (pc := 82) dX8_await_82 rfl ?_
        (rw [FX8_await_5]; (first | rw [if_pos c_9] | (dsimp only; rw [if_pos c_9])); (first | rw [if_neg c_58] | (dsimp only; rw [if_neg c_58])); (first | done | rfl | (dsimp only; done)))
    · replace hD := hD.2 c_9
      refine ab_aload_n (pc := 12) dX8_await_12 rfl rfl ?_
      refine xo_gr (pc := 13) (a := (358 : Nat)) dX8_await_13 fl_X8_9 (by decide) rfl rfl ?_
      refine ab_iload (pc := 16) dX8_await_16 rfl ?_
      obtain ⟨o8, hD⟩ := hD
      refine xo_ild (pc := 18) dX8_await_18 (by decide) rfl o8 (by decide) ?_
      refine ab_iload_n (pc := 19) dX8_await_19 rfl rfl ?_
      refine ab_icmp_ne (pc := 20) (tgt := 51) dX8_await_20 (by decide) (fun c_20 => ?_) (fun c_20 => ?_)
      · replace hD := hD.2 c_20
        refine ab_iinc (pc := 51) dX8_await_51 rfl (ab_inc _) (Nat.le_of_ble_eq_true rfl) rfl ?_
        refine ab_goto (pc := 54) (tgt := 5) dX8_await_54 (by decide) ?_
        refine xo_eqv ?_ (ih _ _ _ _ hD)
        (rw [FX8_await_5]; (first | rw [if_neg c_9] | (dsimp only; rw [if_neg c_9])); (first | rw [if_neg c_20] | (dsimp only; rw [if_neg c_20])); (first | done | rfl | (dsimp only; done)))
      · replace hD := hD.1 c_20
        refine ab_iconst (pc := 23) (v := nI 1) dX8_await_23 (by decide) ?_
        refine ab_istore_n (pc := 24) dX8_await_24 rfl (Nat.le_of_ble_eq_true rfl) rfl ?_
        refine ab_aload_n (pc := 25) dX8_await_25 rfl rfl ?_
        refine xo_gr (pc := 26) (a := (360 : Nat)) dX8_await_26 fl_X8_18 (by decide) rfl rfl ?_
        refine ab_iload (pc := 29) dX8_await_29 rfl ?_
        obtain ⟨o9, hD⟩ := hD
        refine xo_zld (pc := 31) dX8_await_31 (by decide) rfl o9 (by decide) ?_
        refine ab_if_eq (pc := 32) (tgt := 51) dX8_await_32 (by decide) (fun c_32 => ?_) (fun c_32 => ?_)
        · replace hD := hD.1 c_32
          refine ab_iinc (pc := 51) dX8_await_51 rfl (ab_inc _) (Nat.le_of_ble_eq_true rfl) rfl ?_
          refine ab_goto (pc := 54) (tgt := 5) dX8_await_54 (by decide) ?_
          refine xo_eqv ?_ (ih _ _ _ _ hD)
          (rw [FX8_await_5]; (first | rw [if_neg c_9] | (dsimp only; rw [if_neg c_9])); (first | rw [if_pos c_20] | (dsimp only; rw [if_pos c_20])); (first | rw [if_pos c_32] | (dsimp only; rw [if_pos c_32])); (first | done | rfl | (dsimp only; done)))
        · replace hD := hD.2 c_32
          refine ab_aload_n (pc := 35) dX8_await_35 rfl rfl ?_
          refine ab_iconst (pc := 36) (v := nI 3) dX8_await_36 (by decide) ?_
          refine ab_iload_n (pc := 37) dX8_await_37 rfl rfl ?_
          refine ab_bipush (pc := 38) (v := nI 50) dX8_await_38 (by decide) ?_
          refine ab_aload_n (pc := 40) dX8_await_40 rfl rfl ?_
          refine ab_iload (pc := 41) dX8_await_41 rfl ?_
          obtain ⟨o10, hD⟩ := hD
          have e11 := c_X8_collect (tt := tt) _ _ o10
          refine xo_invi (N := mX8_collect) (pc := 43) (d' := 1) (av := [_]) dX8_await_43 ml_X8_117 fv_X8_collect (by decide) (Nat.le_of_ble_eq_true rfl) (by decide) e11 ?_
          refine ab_iconst (pc := 46) (v := nI 0) dX8_await_46 (by decide) ?_
          obtain ⟨o13, hD⟩ := hD
          have e14 := c_X1_send (tt := tt) _ _ _ _ _ _ o13
          refine xo_invv (N := mX1_send) (pc := 47) (d' := 2) (av := [_, _, _, _, _]) dX8_await_47 ml_X8_88 fv_X1_send (by decide) (Nat.le_of_ble_eq_true rfl) (by decide) e14 ?_
          refine xo_vr (pc := 50) dX8_await_50 rfl ?_
          (rw [FX8_await_5]; (first | rw [if_neg c_9] | (dsimp only; rw [if_neg c_9])); (first | rw [if_pos c_20] | (dsimp only; rw [if_pos c_20])); (first | rw [if_neg c_32] | (dsimp only; rw [if_neg c_32])); (first | done | rfl | (dsimp only; done)))
def FX8_await (u : Int32) (x : xD) : xD :=
  FX8_await_5 9 u (nI (0)) 4 x
def DX8_await (u : Int32) (x : xD) : Prop :=
  DX8_await_5 9 u (nI (0)) 4 x
set_option maxRecDepth 100000 in
set_option maxHeartbeats 4000000 in
theorem c_X8_await {tt : Prop} (u : Int32) (x : xD) (hD : DX8_await u x) : ab_Met mX8_await 3 0 0 tt [.ref (357 : Nat), .ref (1 : Nat), .int (u)] (sX x) (xQv (FX8_await u x)) := by
  refine ab_Met.of rfl (Nat.le_of_ble_eq_true rfl) ?_
  show xV mX8_await 3 tt (xQv (FX8_await u x)) 0 [some (.ref (357 : Nat)), some (.ref (1 : Nat)), some (.int (u)), none, none] [] x
  refine ab_iconst (pc := 0) (v := nI 0) dX8_await_0 (by decide) ?_
  refine ab_istore_n (pc := 1) dX8_await_1 rfl (Nat.le_of_ble_eq_true rfl) rfl ?_
  refine ab_iconst (pc := 2) (v := nI 4) dX8_await_2 (by decide) ?_
  refine ab_istore (pc := 3) dX8_await_3 (Nat.le_of_ble_eq_true rfl) rfl ?_
  refine xo_eqv ?_ (w_X8_await_5 9 _ _ _ _ hD)
  first | rfl | (rw [FX8_await]; done) | (rw [FX8_await]; rfl)
def FX8_goOn  (x : xD) : xD :=
  if (x.1 357 4) = 0 then
    x
  else
    if (FX10_isUser (x.1 357 6)) = 0 then
      x
    else
      let x1 : xD := (ab_up x.1 357 4 (nI (0)), x.2)
      if (x1.1 357 5) = 0 then
        let z4 := FX8_leaveChildren (x1.1 357 6) x1
        if (z4.1 358 ((z4.1 357 6).toNatClampNeg)) = (-1) then
          let x29 : xD := (ab_up z4.1 360 ((z4.1 357 6).toNatClampNeg) (nI (0)), z4.2)
          if (x29.1 357 7) = (-1) then
            x29
          else
            let z32 := FX1_send (nI (3)) (x29.1 357 7) (nI (50)) (nI (0)) (nI (0)) x29
            z32
        else
          if (FX10_isUser (z4.1 358 ((z4.1 357 6).toNatClampNeg))) = 0 then
            if (z4.1 357 7) = (-1) then
              z4
            else
              let z9 := FX1_send (nI (3)) (z4.1 357 7) (nI (50)) (nI (0)) (nI (0)) z4
              z9
          else
            if (z4.1 361 ((z4.1 358 ((z4.1 357 6).toNatClampNeg)).toNatClampNeg)) = 0 then
              if (z4.1 357 7) = (-1) then
                z4
              else
                let z14 := FX1_send (nI (3)) (z4.1 357 7) (nI (50)) (nI (0)) (nI (0)) z4
                z14
            else
              let x17 : xD := (ab_up z4.1 361 ((z4.1 358 ((z4.1 357 6).toNatClampNeg)).toNatClampNeg) (nI (0)), z4.2)
              let z20 := FX8_collect (x17.1 357 6) x17
              let z23 := FX1_send (nI (3)) (z4.1 358 ((z4.1 357 6).toNatClampNeg)) (nI (50)) (z20.1) (nI (0)) z20.2
              if (z23.1 357 7) = (-1) then
                z23
              else
                let z26 := FX1_send (nI (3)) (z23.1 357 7) (nI (50)) (nI (0)) (nI (0)) z23
                z26
      else
        let x35 : xD := (ab_up x1.1 3 ((x1.1 357 6).toNatClampNeg) (nI (1)), x1.2)
        let x38 : xD := (ab_up x35.1 358 ((x35.1 357 6).toNatClampNeg) (x35.1 357 7), x35.2)
        let x41 : xD := (ab_up x38.1 359 ((x38.1 357 6).toNatClampNeg) (nI (0)), x38.2)
        let z44 := FX1_send (nI (3)) (x41.1 357 7) (nI (50)) (x41.1 357 6) (nI (0)) x41
        z44
def DX8_goOn  (x : xD) : Prop :=
  (((x.1 357 4) = 0) →
    True) ∧
  (¬ ((x.1 357 4) = 0) →
    (((FX10_isUser (x.1 357 6)) = 0) →
      True) ∧
    (¬ ((FX10_isUser (x.1 357 6)) = 0) →
      let x1 : xD := (ab_up x.1 357 4 (nI (0)), x.2)
      (((x1.1 357 5) = 0) →
        (DX8_leaveChildren (x1.1 357 6) x1) ∧
        let z4 := FX8_leaveChildren (x1.1 357 6) x1
        (¬ (z4.1 357 6) < 0) ∧
        (((z4.1 357 6).toNatClampNeg) < 12) ∧
        (((z4.1 358 ((z4.1 357 6).toNatClampNeg)) = (-1)) →
          (¬ (z4.1 357 6) < 0) ∧
          (((z4.1 357 6).toNatClampNeg) < 12) ∧
          let x29 : xD := (ab_up z4.1 360 ((z4.1 357 6).toNatClampNeg) (nI (0)), z4.2)
          (((x29.1 357 7) = (-1)) →
            True) ∧
          (¬ ((x29.1 357 7) = (-1)) →
            (DX1_send (nI (3)) (x29.1 357 7) (nI (50)) (nI (0)) (nI (0)) x29) ∧
            let z32 := FX1_send (nI (3)) (x29.1 357 7) (nI (50)) (nI (0)) (nI (0)) x29
            True)) ∧
        (¬ ((z4.1 358 ((z4.1 357 6).toNatClampNeg)) = (-1)) →
          (((FX10_isUser (z4.1 358 ((z4.1 357 6).toNatClampNeg))) = 0) →
            (((z4.1 357 7) = (-1)) →
              True) ∧
            (¬ ((z4.1 357 7) = (-1)) →
              (DX1_send (nI (3)) (z4.1 357 7) (nI (50)) (nI (0)) (nI (0)) z4) ∧
              let z9 := FX1_send (nI (3)) (z4.1 357 7) (nI (50)) (nI (0)) (nI (0)) z4
              True)) ∧
          (¬ ((FX10_isUser (z4.1 358 ((z4.1 357 6).toNatClampNeg))) = 0) →
            (¬ (z4.1 358 ((z4.1 357 6).toNatClampNeg)) < 0) ∧
            (((z4.1 358 ((z4.1 357 6).toNatClampNeg)).toNatClampNeg) < 12) ∧
            (((z4.1 361 ((z4.1 358 ((z4.1 357 6).toNatClampNeg)).toNatClampNeg)) = 0) →
              (((z4.1 357 7) = (-1)) →
                True) ∧
              (¬ ((z4.1 357 7) = (-1)) →
                (DX1_send (nI (3)) (z4.1 357 7) (nI (50)) (nI (0)) (nI (0)) z4) ∧
                let z14 := FX1_send (nI (3)) (z4.1 357 7) (nI (50)) (nI (0)) (nI (0)) z4
                True)) ∧
            (¬ ((z4.1 361 ((z4.1 358 ((z4.1 357 6).toNatClampNeg)).toNatClampNeg)) = 0) →
              (¬ (z4.1 358 ((z4.1 357 6).toNatClampNeg)) < 0) ∧
              (((z4.1 358 ((z4.1 357 6).toNatClampNeg)).toNatClampNeg) < 12) ∧
              let x17 : xD := (ab_up z4.1 361 ((z4.1 358 ((z4.1 357 6).toNatClampNeg)).toNatClampNeg) (nI (0)), z4.2)
              (DX8_collect (x17.1 357 6) x17) ∧
              let z20 := FX8_collect (x17.1 357 6) x17
              (DX1_send (nI (3)) (z4.1 358 ((z4.1 357 6).toNatClampNeg)) (nI (50)) (z20.1) (nI (0)) z20.2) ∧
              let z23 := FX1_send (nI (3)) (z4.1 358 ((z4.1 357 6).toNatClampNeg)) (nI (50)) (z20.1) (nI (0)) z20.2
              (((z23.1 357 7) = (-1)) →
                True) ∧
              (¬ ((z23.1 357 7) = (-1)) →
                (DX1_send (nI (3)) (z23.1 357 7) (nI (50)) (nI (0)) (nI (0)) z23) ∧
                let z26 := FX1_send (nI (3)) (z23.1 357 7) (nI (50)) (nI (0)) (nI (0)) z23
                True))))) ∧
      (¬ ((x1.1 357 5) = 0) →
        (¬ (x1.1 357 6) < 0) ∧
        (((x1.1 357 6).toNatClampNeg) < 12) ∧
        let x35 : xD := (ab_up x1.1 3 ((x1.1 357 6).toNatClampNeg) (nI (1)), x1.2)
        (¬ (x35.1 357 6) < 0) ∧
        (((x35.1 357 6).toNatClampNeg) < 12) ∧
        let x38 : xD := (ab_up x35.1 358 ((x35.1 357 6).toNatClampNeg) (x35.1 357 7), x35.2)
        (¬ (x38.1 357 6) < 0) ∧
        (((x38.1 357 6).toNatClampNeg) < 12) ∧
        let x41 : xD := (ab_up x38.1 359 ((x38.1 357 6).toNatClampNeg) (nI (0)), x38.2)
        (DX1_send (nI (3)) (x41.1 357 7) (nI (50)) (x41.1 357 6) (nI (0)) x41) ∧
        let z44 := FX1_send (nI (3)) (x41.1 357 7) (nI (50)) (x41.1 357 6) (nI (0)) x41
        True)))
set_option maxRecDepth 100000 in
set_option maxHeartbeats 4000000 in
theorem c_X8_goOn {tt : Prop}  (x : xD) (hD : DX8_goOn  x) : ab_Met mX8_goOn 3 0 0 tt [.ref (357 : Nat), .ref (1 : Nat)] (sX x) (xQv (FX8_goOn  x)) := by
  refine ab_Met.of rfl (Nat.le_of_ble_eq_true rfl) ?_
  show xV mX8_goOn 3 tt (xQv (FX8_goOn  x)) 0 [some (.ref (357 : Nat)), some (.ref (1 : Nat)), none] [] x
  refine ab_aload_n (pc := 0) dX8_goOn_0 rfl rfl ?_
  refine xo_gi (pc := 1) dX8_goOn_1 fl_X8_35 (by decide) rfl ?_
  refine ab_if_eq (pc := 4) (tgt := 17) dX8_goOn_4 (by decide) (fun c_4 => ?_) (fun c_4 => ?_)
  · refine xo_vr (pc := 17) dX8_goOn_17 rfl ?_
    (rw [FX8_goOn]; (first | rw [if_pos c_4] | (dsimp only; rw [if_pos c_4])); (first | done | rfl | (dsimp only; done)))
  · replace hD := hD.2 c_4
    refine ab_aload_n (pc := 7) dX8_goOn_7 rfl rfl ?_
    refine xo_gi (pc := 8) dX8_goOn_8 fl_X8_111 (by decide) rfl ?_
    refine xo_invsN (N := mX10_isUser) (pc := 11) (d' := 0) (av := [_]) dX8_goOn_11 nn_X8_25 fs_X10_isUser (Nat.le_of_ble_eq_true rfl) (by decide) (c_X10_isUser _ _ trivial) ?_
    refine ab_if_ne (pc := 14) (tgt := 18) dX8_goOn_14 (by decide) (fun c_14 => ?_) (fun c_14 => ?_)
    · replace hD := hD.2 c_14
      refine ab_aload_n (pc := 18) dX8_goOn_18 rfl rfl ?_
      refine ab_iconst (pc := 19) (v := nI 0) dX8_goOn_19 (by decide) ?_
      refine xo_pi (pc := 20) dX8_goOn_20 fl_X8_35 (by decide) rfl (fun _ _ _ h => Or.inl (by cases h; rfl)) (ab_ok_b (Or.inl rfl)) ?_
      refine ab_aload_n (pc := 23) dX8_goOn_23 rfl rfl ?_
      refine xo_gi (pc := 24) dX8_goOn_24 fl_X8_108 (by decide) rfl ?_
      refine ab_if_eq (pc := 27) (tgt := 80) dX8_goOn_27 (by decide) (fun c_27 => ?_) (fun c_27 => ?_)
      · replace hD := hD.1 c_27
        refine ab_aload_n (pc := 80) dX8_goOn_80 rfl rfl ?_
        refine ab_aload_n (pc := 81) dX8_goOn_81 rfl rfl ?_
        refine xo_gi (pc := 82) dX8_goOn_82 fl_X8_111 (by decide) rfl ?_
        obtain ⟨o2, hD⟩ := hD
        have e3 := c_X8_leaveChildren (tt := tt) _ _ o2
        refine xo_invv (N := mX8_leaveChildren) (pc := 85) (d' := 0) (av := [_]) dX8_goOn_85 ml_X8_120 fv_X8_leaveChildren (by decide) (Nat.le_of_ble_eq_true rfl) (by decide) e3 ?_
        refine ab_aload_n (pc := 88) dX8_goOn_88 rfl rfl ?_
        refine xo_gr (pc := 89) (a := (358 : Nat)) dX8_goOn_89 fl_X8_9 (by decide) rfl rfl ?_
        refine ab_aload_n (pc := 92) dX8_goOn_92 rfl rfl ?_
        refine xo_gi (pc := 93) dX8_goOn_93 fl_X8_111 (by decide) rfl ?_
        obtain ⟨o5, hD⟩ := hD
        refine ab_nat1 (ab_nat o5) ?_
        obtain ⟨o6, hD⟩ := hD
        refine xo_ild (pc := 96) dX8_goOn_96 (by decide) rfl o6 (by decide) ?_
        refine ab_istore_n (pc := 97) dX8_goOn_97 rfl (Nat.le_of_ble_eq_true rfl) rfl ?_
        refine ab_iload_n (pc := 98) dX8_goOn_98 rfl rfl ?_
        refine ab_iconst (pc := 99) (v := -1) dX8_goOn_99 (by decide) ?_
        refine ab_icmp_ne (pc := 100) (tgt := 116) dX8_goOn_100 (by decide) (fun c_100 => ?_) (fun c_100 => ?_)
        · replace hD := hD.2 c_100
          refine ab_iload_n (pc := 116) dX8_goOn_116 rfl rfl ?_
          refine xo_invsN (N := mX10_isUser) (pc := 117) (d' := 0) (av := [_]) dX8_goOn_117 nn_X8_25 fs_X10_isUser (Nat.le_of_ble_eq_true rfl) (by decide) (c_X10_isUser _ _ trivial) ?_
          refine ab_if_eq (pc := 120) (tgt := 156) dX8_goOn_120 (by decide) (fun c_120 => ?_) (fun c_120 => ?_)
          · replace hD := hD.1 c_120
            refine ab_aload_n (pc := 156) dX8_goOn_156 rfl rfl ?_
            refine xo_gi (pc := 157) dX8_goOn_157 fl_X8_114 (by decide) rfl ?_
            refine ab_iconst (pc := 160) (v := -1) dX8_goOn_160 (by decide) ?_
            refine ab_icmp_eq (pc := 161) (tgt := 177) dX8_goOn_161 (by decide) (fun c_161 => ?_) (fun c_161 => ?_)
            · refine xo_vr (pc := 177) dX8_goOn_177 rfl ?_
              (rw [FX8_goOn]; (first | rw [if_neg c_4] | (dsimp only; rw [if_neg c_4])); (first | rw [if_neg c_14] | (dsimp only; rw [if_neg c_14])); (first | rw [if_pos c_27] | (dsimp only; rw [if_pos c_27])); (first | rw [if_neg c_100] | (dsimp only; rw [if_neg c_100])); (first | rw [if_pos c_120] | (dsimp only; rw [if_pos c_120])); (first | rw [if_pos c_161] | (dsimp only; rw [if_pos c_161])); (first | done | rfl | (dsimp only; done)))
            · replace hD := hD.2 c_161
              refine ab_aload_n (pc := 164) dX8_goOn_164 rfl rfl ?_
              refine ab_iconst (pc := 165) (v := nI 3) dX8_goOn_165 (by decide) ?_
              refine ab_aload_n (pc := 166) dX8_goOn_166 rfl rfl ?_
              refine xo_gi (pc := 167) dX8_goOn_167 fl_X8_114 (by decide) rfl ?_
              refine ab_bipush (pc := 170) (v := nI 50) dX8_goOn_170 (by decide) ?_
              refine ab_iconst (pc := 172) (v := nI 0) dX8_goOn_172 (by decide) ?_
              refine ab_iconst (pc := 173) (v := nI 0) dX8_goOn_173 (by decide) ?_
              obtain ⟨o7, hD⟩ := hD
              have e8 := c_X1_send (tt := tt) _ _ _ _ _ _ o7
              refine xo_invv (N := mX1_send) (pc := 174) (d' := 2) (av := [_, _, _, _, _]) dX8_goOn_174 ml_X8_88 fv_X1_send (by decide) (Nat.le_of_ble_eq_true rfl) (by decide) e8 ?_
              refine xo_vr (pc := 177) dX8_goOn_177 rfl ?_
              (rw [FX8_goOn]; (first | rw [if_neg c_4] | (dsimp only; rw [if_neg c_4])); (first | rw [if_neg c_14] | (dsimp only; rw [if_neg c_14])); (first | rw [if_pos c_27] | (dsimp only; rw [if_pos c_27])); (first | rw [if_neg c_100] | (dsimp only; rw [if_neg c_100])); (first | rw [if_pos c_120] | (dsimp only; rw [if_pos c_120])); (first | rw [if_neg c_161] | (dsimp only; rw [if_neg c_161])); (first | done | rfl | (dsimp only; done)))
          · replace hD := hD.2 c_120
            refine ab_aload_n (pc := 123) dX8_goOn_123 rfl rfl ?_
            refine xo_gr (pc := 124) (a := (361 : Nat)) dX8_goOn_124 fl_X8_22 (by decide) rfl rfl ?_
            refine ab_iload_n (pc := 127) dX8_goOn_127 rfl rfl ?_
            obtain ⟨o10, hD⟩ := hD
            refine ab_nat1 (ab_nat o10) ?_
            obtain ⟨o11, hD⟩ := hD
            refine xo_zld (pc := 128) dX8_goOn_128 (by decide) rfl o11 (by decide) ?_
            refine ab_if_eq (pc := 129) (tgt := 156) dX8_goOn_129 (by decide) (fun c_129 => ?_) (fun c_129 => ?_)
            · replace hD := hD.1 c_129
              refine ab_aload_n (pc := 156) dX8_goOn_156 rfl rfl ?_
              refine xo_gi (pc := 157) dX8_goOn_157 fl_X8_114 (by decide) rfl ?_
              refine ab_iconst (pc := 160) (v := -1) dX8_goOn_160 (by decide) ?_
              refine ab_icmp_eq (pc := 161) (tgt := 177) dX8_goOn_161 (by decide) (fun c_161 => ?_) (fun c_161 => ?_)
              · refine xo_vr (pc := 177) dX8_goOn_177 rfl ?_
                (rw [FX8_goOn]; (first | rw [if_neg c_4] | (dsimp only; rw [if_neg c_4])); (first | rw [if_neg c_14] | (dsimp only; rw [if_neg c_14])); (first | rw [if_pos c_27] | (dsimp only; rw [if_pos c_27])); (first | rw [if_neg c_100] | (dsimp only; rw [if_neg c_100])); (first | rw [if_neg c_120] | (dsimp only; rw [if_neg c_120])); (first | rw [if_pos c_129] | (dsimp only; rw [if_pos c_129])); (first | rw [if_pos c_161] | (dsimp only; rw [if_pos c_161])); (first | done | rfl | (dsimp only; done)))
              · replace hD := hD.2 c_161
                refine ab_aload_n (pc := 164) dX8_goOn_164 rfl rfl ?_
                refine ab_iconst (pc := 165) (v := nI 3) dX8_goOn_165 (by decide) ?_
                refine ab_aload_n (pc := 166) dX8_goOn_166 rfl rfl ?_
                refine xo_gi (pc := 167) dX8_goOn_167 fl_X8_114 (by decide) rfl ?_
                refine ab_bipush (pc := 170) (v := nI 50) dX8_goOn_170 (by decide) ?_
                refine ab_iconst (pc := 172) (v := nI 0) dX8_goOn_172 (by decide) ?_
                refine ab_iconst (pc := 173) (v := nI 0) dX8_goOn_173 (by decide) ?_
                obtain ⟨o12, hD⟩ := hD
                have e13 := c_X1_send (tt := tt) _ _ _ _ _ _ o12
                refine xo_invv (N := mX1_send) (pc := 174) (d' := 2) (av := [_, _, _, _, _]) dX8_goOn_174 ml_X8_88 fv_X1_send (by decide) (Nat.le_of_ble_eq_true rfl) (by decide) e13 ?_
                refine xo_vr (pc := 177) dX8_goOn_177 rfl ?_
                (rw [FX8_goOn]; (first | rw [if_neg c_4] | (dsimp only; rw [if_neg c_4])); (first | rw [if_neg c_14] | (dsimp only; rw [if_neg c_14])); (first | rw [if_pos c_27] | (dsimp only; rw [if_pos c_27])); (first | rw [if_neg c_100] | (dsimp only; rw [if_neg c_100])); (first | rw [if_neg c_120] | (dsimp only; rw [if_neg c_120])); (first | rw [if_pos c_129] | (dsimp only; rw [if_pos c_129])); (first | rw [if_neg c_161] | (dsimp only; rw [if_neg c_161])); (first | done | rfl | (dsimp only; done)))
            · replace hD := hD.2 c_129
              refine ab_aload_n (pc := 132) dX8_goOn_132 rfl rfl ?_
              refine xo_gr (pc := 133) (a := (361 : Nat)) dX8_goOn_133 fl_X8_22 (by decide) rfl rfl ?_
              refine ab_iload_n (pc := 136) dX8_goOn_136 rfl rfl ?_
              refine ab_iconst (pc := 137) (v := nI 0) dX8_goOn_137 (by decide) ?_
              obtain ⟨o15, hD⟩ := hD
              refine ab_nat3 (ab_nat o15) ?_
              obtain ⟨o16, hD⟩ := hD
              refine xo_zst (pc := 138) dX8_goOn_138 (by decide) rfl o16 (by decide) (Or.inl rfl) ?_
              refine ab_aload_n (pc := 139) dX8_goOn_139 rfl rfl ?_
              refine ab_iconst (pc := 140) (v := nI 3) dX8_goOn_140 (by decide) ?_
              refine ab_iload_n (pc := 141) dX8_goOn_141 rfl rfl ?_
              refine ab_bipush (pc := 142) (v := nI 50) dX8_goOn_142 (by decide) ?_
              refine ab_aload_n (pc := 144) dX8_goOn_144 rfl rfl ?_
              refine ab_aload_n (pc := 145) dX8_goOn_145 rfl rfl ?_
              refine xo_gi (pc := 146) dX8_goOn_146 fl_X8_111 (by decide) rfl ?_
              obtain ⟨o18, hD⟩ := hD
              have e19 := c_X8_collect (tt := tt) _ _ o18
              refine xo_invi (N := mX8_collect) (pc := 149) (d' := 1) (av := [_]) dX8_goOn_149 ml_X8_117 fv_X8_collect (by decide) (Nat.le_of_ble_eq_true rfl) (by decide) e19 ?_
              refine ab_iconst (pc := 152) (v := nI 0) dX8_goOn_152 (by decide) ?_
              obtain ⟨o21, hD⟩ := hD
              have e22 := c_X1_send (tt := tt) _ _ _ _ _ _ o21
              refine xo_invv (N := mX1_send) (pc := 153) (d' := 2) (av := [_, _, _, _, _]) dX8_goOn_153 ml_X8_88 fv_X1_send (by decide) (Nat.le_of_ble_eq_true rfl) (by decide) e22 ?_
              refine ab_aload_n (pc := 156) dX8_goOn_156 rfl rfl ?_
              refine xo_gi (pc := 157) dX8_goOn_157 fl_X8_114 (by decide) rfl ?_
              refine ab_iconst (pc := 160) (v := -1) dX8_goOn_160 (by decide) ?_
              refine ab_icmp_eq (pc := 161) (tgt := 177) dX8_goOn_161 (by decide) (fun c_161 => ?_) (fun c_161 => ?_)
              · refine xo_vr (pc := 177) dX8_goOn_177 rfl ?_
                (rw [FX8_goOn]; (first | rw [if_neg c_4] | (dsimp only; rw [if_neg c_4])); (first | rw [if_neg c_14] | (dsimp only; rw [if_neg c_14])); (first | rw [if_pos c_27] | (dsimp only; rw [if_pos c_27])); (first | rw [if_neg c_100] | (dsimp only; rw [if_neg c_100])); (first | rw [if_neg c_120] | (dsimp only; rw [if_neg c_120])); (first | rw [if_neg c_129] | (dsimp only; rw [if_neg c_129])); (first | rw [if_pos c_161] | (dsimp only; rw [if_pos c_161])); (first | done | rfl | (dsimp only; done)))
              · replace hD := hD.2 c_161
                refine ab_aload_n (pc := 164) dX8_goOn_164 rfl rfl ?_
                refine ab_iconst (pc := 165) (v := nI 3) dX8_goOn_165 (by decide) ?_
                refine ab_aload_n (pc := 166) dX8_goOn_166 rfl rfl ?_
                refine xo_gi (pc := 167) dX8_goOn_167 fl_X8_114 (by decide) rfl ?_
                refine ab_bipush (pc := 170) (v := nI 50) dX8_goOn_170 (by decide) ?_
                refine ab_iconst (pc := 172) (v := nI 0) dX8_goOn_172 (by decide) ?_
                refine ab_iconst (pc := 173) (v := nI 0) dX8_goOn_173 (by decide) ?_
                obtain ⟨o24, hD⟩ := hD
                have e25 := c_X1_send (tt := tt) _ _ _ _ _ _ o24
                refine xo_invv (N := mX1_send) (pc := 174) (d' := 2) (av := [_, _, _, _, _]) dX8_goOn_174 ml_X8_88 fv_X1_send (by decide) (Nat.le_of_ble_eq_true rfl) (by decide) e25 ?_
                refine xo_vr (pc := 177) dX8_goOn_177 rfl ?_
                (rw [FX8_goOn]; (first | rw [if_neg c_4] | (dsimp only; rw [if_neg c_4])); (first | rw [if_neg c_14] | (dsimp only; rw [if_neg c_14])); (first | rw [if_pos c_27] | (dsimp only; rw [if_pos c_27])); (first | rw [if_neg c_100] | (dsimp only; rw [if_neg c_100])); (first | rw [if_neg c_120] | (dsimp only; rw [if_neg c_120])); (first | rw [if_neg c_129] | (dsimp only; rw [if_neg c_129])); (first | rw [if_neg c_161] | (dsimp only; rw [if_neg c_161])); (first | done | rfl | (dsimp only; done)))
        · replace hD := hD.1 c_100
          refine ab_aload_n (pc := 103) dX8_goOn_103 rfl rfl ?_
          refine xo_gr (pc := 104) (a := (360 : Nat)) dX8_goOn_104 fl_X8_18 (by decide) rfl rfl ?_
          refine ab_aload_n (pc := 107) dX8_goOn_107 rfl rfl ?_
          refine xo_gi (pc := 108) dX8_goOn_108 fl_X8_111 (by decide) rfl ?_
          refine ab_iconst (pc := 111) (v := nI 0) dX8_goOn_111 (by decide) ?_
          obtain ⟨o27, hD⟩ := hD
          refine ab_nat3 (ab_nat o27) ?_
          obtain ⟨o28, hD⟩ := hD
          refine xo_zst (pc := 112) dX8_goOn_112 (by decide) rfl o28 (by decide) (Or.inl rfl) ?_
          refine ab_goto (pc := 113) (tgt := 156) dX8_goOn_113 (by decide) ?_
          refine ab_aload_n (pc := 156) dX8_goOn_156 rfl rfl ?_
          refine xo_gi (pc := 157) dX8_goOn_157 fl_X8_114 (by decide) rfl ?_
          refine ab_iconst (pc := 160) (v := -1) dX8_goOn_160 (by decide) ?_
          refine ab_icmp_eq (pc := 161) (tgt := 177) dX8_goOn_161 (by decide) (fun c_161 => ?_) (fun c_161 => ?_)
          · refine xo_vr (pc := 177) dX8_goOn_177 rfl ?_
            (rw [FX8_goOn]; (first | rw [if_neg c_4] | (dsimp only; rw [if_neg c_4])); (first | rw [if_neg c_14] | (dsimp only; rw [if_neg c_14])); (first | rw [if_pos c_27] | (dsimp only; rw [if_pos c_27])); (first | rw [if_pos c_100] | (dsimp only; rw [if_pos c_100])); (first | rw [if_pos c_161] | (dsimp only; rw [if_pos c_161])); (first | done | rfl | (dsimp only; done)))
          · replace hD := hD.2 c_161
            refine ab_aload_n (pc := 164) dX8_goOn_164 rfl rfl ?_
            refine ab_iconst (pc := 165) (v := nI 3) dX8_goOn_165 (by decide) ?_
            refine ab_aload_n (pc := 166) dX8_goOn_166 rfl rfl ?_
            refine xo_gi (pc := 167) dX8_goOn_167 fl_X8_114 (by decide) rfl ?_
            refine ab_bipush (pc := 170) (v := nI 50) dX8_goOn_170 (by decide) ?_
            refine ab_iconst (pc := 172) (v := nI 0) dX8_goOn_172 (by decide) ?_
            refine ab_iconst (pc := 173) (v := nI 0) dX8_goOn_173 (by decide) ?_
            obtain ⟨o30, hD⟩ := hD
            have e31 := c_X1_send (tt := tt) _ _ _ _ _ _ o30
            refine xo_invv (N := mX1_send) (pc := 174) (d' := 2) (av := [_, _, _, _, _]) dX8_goOn_174 ml_X8_88 fv_X1_send (by decide) (Nat.le_of_ble_eq_true rfl) (by decide) e31 ?_
            refine xo_vr (pc := 177) dX8_goOn_177 rfl ?_
            (rw [FX8_goOn]; (first | rw [if_neg c_4] | (dsimp only; rw [if_neg c_4])); (first | rw [if_neg c_14] | (dsimp only; rw [if_neg c_14])); (first | rw [if_pos c_27] | (dsimp only; rw [if_pos c_27])); (first | rw [if_pos c_100] | (dsimp only; rw [if_pos c_100])); (first | rw [if_neg c_161] | (dsimp only; rw [if_neg c_161])); (first | done | rfl | (dsimp only; done)))
      · replace hD := hD.2 c_27
        refine ab_aload_n (pc := 30) dX8_goOn_30 rfl rfl ?_
        refine xo_gr (pc := 31) (a := (3 : Nat)) dX8_goOn_31 fl_X8_85 (by decide) rfl rfl ?_
        refine ab_aload_n (pc := 34) dX8_goOn_34 rfl rfl ?_
        refine xo_gi (pc := 35) dX8_goOn_35 fl_X8_111 (by decide) rfl ?_
        refine ab_iconst (pc := 38) (v := nI 1) dX8_goOn_38 (by decide) ?_
        obtain ⟨o33, hD⟩ := hD
        refine ab_nat3 (ab_nat o33) ?_
        obtain ⟨o34, hD⟩ := hD
        refine xo_zst (pc := 39) dX8_goOn_39 (by decide) rfl o34 (by decide) (Or.inr rfl) ?_
        refine ab_aload_n (pc := 40) dX8_goOn_40 rfl rfl ?_
        refine xo_gr (pc := 41) (a := (358 : Nat)) dX8_goOn_41 fl_X8_9 (by decide) rfl rfl ?_
        refine ab_aload_n (pc := 44) dX8_goOn_44 rfl rfl ?_
        refine xo_gi (pc := 45) dX8_goOn_45 fl_X8_111 (by decide) rfl ?_
        refine ab_aload_n (pc := 48) dX8_goOn_48 rfl rfl ?_
        refine xo_gi (pc := 49) dX8_goOn_49 fl_X8_114 (by decide) rfl ?_
        obtain ⟨o36, hD⟩ := hD
        refine ab_nat3 (ab_nat o36) ?_
        obtain ⟨o37, hD⟩ := hD
        refine xo_ist (pc := 52) dX8_goOn_52 (by decide) rfl o37 (by decide) ?_
        refine ab_aload_n (pc := 53) dX8_goOn_53 rfl rfl ?_
        refine xo_gr (pc := 54) (a := (359 : Nat)) dX8_goOn_54 fl_X8_15 (by decide) rfl rfl ?_
        refine ab_aload_n (pc := 57) dX8_goOn_57 rfl rfl ?_
        refine xo_gi (pc := 58) dX8_goOn_58 fl_X8_111 (by decide) rfl ?_
        refine ab_iconst (pc := 61) (v := nI 0) dX8_goOn_61 (by decide) ?_
        obtain ⟨o39, hD⟩ := hD
        refine ab_nat3 (ab_nat o39) ?_
        obtain ⟨o40, hD⟩ := hD
        refine xo_ist (pc := 62) dX8_goOn_62 (by decide) rfl o40 (by decide) ?_
        refine ab_aload_n (pc := 63) dX8_goOn_63 rfl rfl ?_
        refine ab_iconst (pc := 64) (v := nI 3) dX8_goOn_64 (by decide) ?_
        refine ab_aload_n (pc := 65) dX8_goOn_65 rfl rfl ?_
        refine xo_gi (pc := 66) dX8_goOn_66 fl_X8_114 (by decide) rfl ?_
        refine ab_bipush (pc := 69) (v := nI 50) dX8_goOn_69 (by decide) ?_
        refine ab_aload_n (pc := 71) dX8_goOn_71 rfl rfl ?_
        refine xo_gi (pc := 72) dX8_goOn_72 fl_X8_111 (by decide) rfl ?_
        refine ab_iconst (pc := 75) (v := nI 0) dX8_goOn_75 (by decide) ?_
        obtain ⟨o42, hD⟩ := hD
        have e43 := c_X1_send (tt := tt) _ _ _ _ _ _ o42
        refine xo_invv (N := mX1_send) (pc := 76) (d' := 2) (av := [_, _, _, _, _]) dX8_goOn_76 ml_X8_88 fv_X1_send (by decide) (Nat.le_of_ble_eq_true rfl) (by decide) e43 ?_
        refine xo_vr (pc := 79) dX8_goOn_79 rfl ?_
        (rw [FX8_goOn]; (first | rw [if_neg c_4] | (dsimp only; rw [if_neg c_4])); (first | rw [if_neg c_14] | (dsimp only; rw [if_neg c_14])); (first | rw [if_neg c_27] | (dsimp only; rw [if_neg c_27])); (first | done | rfl | (dsimp only; done)))
    · refine xo_vr (pc := 17) dX8_goOn_17 rfl ?_
      (rw [FX8_goOn]; (first | rw [if_neg c_4] | (dsimp only; rw [if_neg c_4])); (first | rw [if_pos c_14] | (dsimp only; rw [if_pos c_14])); (first | done | rfl | (dsimp only; done)))
def FX8_takeTurn  (x : xD) : xD :=
  if (x.1 357 4) = 0 then
    let z3 := FX0_take 91 (nI (0)) x
    ab_o z3.1 (
      z3.2) (fun w4 =>
      if (FX10_isPart (z3.2.1 w4 1)) = 0 then
        z3.2
      else
        if (z3.2.1 w4 2) = 8 then
          let z8 := FX8_fork (z3.2.1 w4 1) z3.2
          z8
        else if (z3.2.1 w4 2) = 9 then
          let z13 := FX8_end (z3.2.1 w4 1) (FXJ9_floorMod_7cf53 (z3.2.1 w4 3) (nI (256))) (-1) z3.2
          z13
        else if (z3.2.1 w4 2) = 10 then
          let z16 := FX8_await (z3.2.1 w4 1) z3.2
          z16
        else if (z3.2.1 w4 2) = 11 then
          if (FX10_isUser (z3.2.1 w4 3)) = 0 then
            let z19 := FX1_send (nI (3)) (z3.2.1 w4 1) (nI (50)) (-11) (nI (0)) z3.2
            z19
          else
            if (z3.2.1 3 ((z3.2.1 w4 3).toNatClampNeg)) = 0 then
              let z24 := FX1_send (nI (3)) (z3.2.1 w4 1) (nI (50)) (-11) (nI (0)) z3.2
              z24
            else
              if (z3.2.1 358 ((z3.2.1 w4 3).toNatClampNeg)) = (z3.2.1 w4 1) then
                let z32 := FX8_end (z3.2.1 w4 3) (nI (255)) (z3.2.1 w4 1) z3.2
                z32
              else
                let z29 := FX1_send (nI (3)) (z3.2.1 w4 1) (nI (50)) (-11) (nI (0)) z3.2
                z29
        else if (z3.2.1 w4 2) = 12 then
          if (z3.2.1 358 ((z3.2.1 w4 1).toNatClampNeg)) = (-1) then
            let z42 := FX1_send (nI (3)) (z3.2.1 w4 1) (nI (50)) (nI (0)) (nI (0)) z3.2
            z42
          else
            let z39 := FX1_send (nI (3)) (z3.2.1 w4 1) (nI (50)) (z3.2.1 358 ((z3.2.1 w4 1).toNatClampNeg)) (nI (0)) z3.2
            z39
        else if (z3.2.1 w4 2) = 32 then
          let z45 := FX8_goOn  z3.2
          z45
        else
          z3.2)
  else
    let z50 := FX0_take 91 (FX0_firstFor 91 (nI (4)) x) x
    ab_o z50.1 (
      z50.2) (fun w51 =>
      if (FX10_isPart (z50.2.1 w51 1)) = 0 then
        z50.2
      else
        if (z50.2.1 w51 2) = 8 then
          let z55 := FX8_fork (z50.2.1 w51 1) z50.2
          z55
        else if (z50.2.1 w51 2) = 9 then
          let z60 := FX8_end (z50.2.1 w51 1) (FXJ9_floorMod_7cf53 (z50.2.1 w51 3) (nI (256))) (-1) z50.2
          z60
        else if (z50.2.1 w51 2) = 10 then
          let z63 := FX8_await (z50.2.1 w51 1) z50.2
          z63
        else if (z50.2.1 w51 2) = 11 then
          if (FX10_isUser (z50.2.1 w51 3)) = 0 then
            let z66 := FX1_send (nI (3)) (z50.2.1 w51 1) (nI (50)) (-11) (nI (0)) z50.2
            z66
          else
            if (z50.2.1 3 ((z50.2.1 w51 3).toNatClampNeg)) = 0 then
              let z71 := FX1_send (nI (3)) (z50.2.1 w51 1) (nI (50)) (-11) (nI (0)) z50.2
              z71
            else
              if (z50.2.1 358 ((z50.2.1 w51 3).toNatClampNeg)) = (z50.2.1 w51 1) then
                let z79 := FX8_end (z50.2.1 w51 3) (nI (255)) (z50.2.1 w51 1) z50.2
                z79
              else
                let z76 := FX1_send (nI (3)) (z50.2.1 w51 1) (nI (50)) (-11) (nI (0)) z50.2
                z76
        else if (z50.2.1 w51 2) = 12 then
          if (z50.2.1 358 ((z50.2.1 w51 1).toNatClampNeg)) = (-1) then
            let z89 := FX1_send (nI (3)) (z50.2.1 w51 1) (nI (50)) (nI (0)) (nI (0)) z50.2
            z89
          else
            let z86 := FX1_send (nI (3)) (z50.2.1 w51 1) (nI (50)) (z50.2.1 358 ((z50.2.1 w51 1).toNatClampNeg)) (nI (0)) z50.2
            z86
        else if (z50.2.1 w51 2) = 32 then
          let z92 := FX8_goOn  z50.2
          z92
        else
          z50.2)
def DX8_takeTurn  (x : xD) : Prop :=
  (((x.1 357 4) = 0) →
    (DX0_take 91 (nI (0)) x) ∧
    let z3 := FX0_take 91 (nI (0)) x
    (z3.1 = none →
      True) ∧
    (∀ w4 : Nat, z3.1 = some w4 →
      (isX w4 6) ∧
      (((FX10_isPart (z3.2.1 w4 1)) = 0) →
        True) ∧
      (¬ ((FX10_isPart (z3.2.1 w4 1)) = 0) →
        ((z3.2.1 w4 2) = 8 →
          (DX8_fork (z3.2.1 w4 1) z3.2) ∧
          let z8 := FX8_fork (z3.2.1 w4 1) z3.2
          True) ∧
        ((z3.2.1 w4 2) = 9 →
          (DXJ9_floorMod_7cf53 (z3.2.1 w4 3) (nI (256)) z3.2) ∧
          (DX8_end (z3.2.1 w4 1) (FXJ9_floorMod_7cf53 (z3.2.1 w4 3) (nI (256))) (-1) z3.2) ∧
          let z13 := FX8_end (z3.2.1 w4 1) (FXJ9_floorMod_7cf53 (z3.2.1 w4 3) (nI (256))) (-1) z3.2
          True) ∧
        ((z3.2.1 w4 2) = 10 →
          (DX8_await (z3.2.1 w4 1) z3.2) ∧
          let z16 := FX8_await (z3.2.1 w4 1) z3.2
          True) ∧
        ((z3.2.1 w4 2) = 11 →
          (((FX10_isUser (z3.2.1 w4 3)) = 0) →
            (DX1_send (nI (3)) (z3.2.1 w4 1) (nI (50)) (-11) (nI (0)) z3.2) ∧
            let z19 := FX1_send (nI (3)) (z3.2.1 w4 1) (nI (50)) (-11) (nI (0)) z3.2
            True) ∧
          (¬ ((FX10_isUser (z3.2.1 w4 3)) = 0) →
            (¬ (z3.2.1 w4 3) < 0) ∧
            (((z3.2.1 w4 3).toNatClampNeg) < 12) ∧
            (((z3.2.1 3 ((z3.2.1 w4 3).toNatClampNeg)) = 0) →
              (DX1_send (nI (3)) (z3.2.1 w4 1) (nI (50)) (-11) (nI (0)) z3.2) ∧
              let z24 := FX1_send (nI (3)) (z3.2.1 w4 1) (nI (50)) (-11) (nI (0)) z3.2
              True) ∧
            (¬ ((z3.2.1 3 ((z3.2.1 w4 3).toNatClampNeg)) = 0) →
              (¬ (z3.2.1 w4 3) < 0) ∧
              (((z3.2.1 w4 3).toNatClampNeg) < 12) ∧
              (((z3.2.1 358 ((z3.2.1 w4 3).toNatClampNeg)) = (z3.2.1 w4 1)) →
                (DX8_end (z3.2.1 w4 3) (nI (255)) (z3.2.1 w4 1) z3.2) ∧
                let z32 := FX8_end (z3.2.1 w4 3) (nI (255)) (z3.2.1 w4 1) z3.2
                True) ∧
              (¬ ((z3.2.1 358 ((z3.2.1 w4 3).toNatClampNeg)) = (z3.2.1 w4 1)) →
                (DX1_send (nI (3)) (z3.2.1 w4 1) (nI (50)) (-11) (nI (0)) z3.2) ∧
                let z29 := FX1_send (nI (3)) (z3.2.1 w4 1) (nI (50)) (-11) (nI (0)) z3.2
                True)))) ∧
        ((z3.2.1 w4 2) = 12 →
          (¬ (z3.2.1 w4 1) < 0) ∧
          (((z3.2.1 w4 1).toNatClampNeg) < 12) ∧
          (((z3.2.1 358 ((z3.2.1 w4 1).toNatClampNeg)) = (-1)) →
            (DX1_send (nI (3)) (z3.2.1 w4 1) (nI (50)) (nI (0)) (nI (0)) z3.2) ∧
            let z42 := FX1_send (nI (3)) (z3.2.1 w4 1) (nI (50)) (nI (0)) (nI (0)) z3.2
            True) ∧
          (¬ ((z3.2.1 358 ((z3.2.1 w4 1).toNatClampNeg)) = (-1)) →
            (¬ (z3.2.1 w4 1) < 0) ∧
            (((z3.2.1 w4 1).toNatClampNeg) < 12) ∧
            (DX1_send (nI (3)) (z3.2.1 w4 1) (nI (50)) (z3.2.1 358 ((z3.2.1 w4 1).toNatClampNeg)) (nI (0)) z3.2) ∧
            let z39 := FX1_send (nI (3)) (z3.2.1 w4 1) (nI (50)) (z3.2.1 358 ((z3.2.1 w4 1).toNatClampNeg)) (nI (0)) z3.2
            True)) ∧
        ((z3.2.1 w4 2) = 32 →
          (DX8_goOn  z3.2) ∧
          let z45 := FX8_goOn  z3.2
          True) ∧
        ((∀ c ∈ ([(8, 124), (9, 134), (10, 157), (11, 167), (12, 240), (32, 116)] : List (Int32 × Nat)), ¬ (z3.2.1 w4 2) = c.1) →
          True)))) ∧
  (¬ ((x.1 357 4) = 0) →
    (DX0_firstFor 91 (nI (4)) x) ∧
    (DX0_take 91 (FX0_firstFor 91 (nI (4)) x) x) ∧
    let z50 := FX0_take 91 (FX0_firstFor 91 (nI (4)) x) x
    (z50.1 = none →
      True) ∧
    (∀ w51 : Nat, z50.1 = some w51 →
      (isX w51 6) ∧
      (((FX10_isPart (z50.2.1 w51 1)) = 0) →
        True) ∧
      (¬ ((FX10_isPart (z50.2.1 w51 1)) = 0) →
        ((z50.2.1 w51 2) = 8 →
          (DX8_fork (z50.2.1 w51 1) z50.2) ∧
          let z55 := FX8_fork (z50.2.1 w51 1) z50.2
          True) ∧
        ((z50.2.1 w51 2) = 9 →
          (DXJ9_floorMod_7cf53 (z50.2.1 w51 3) (nI (256)) z50.2) ∧
          (DX8_end (z50.2.1 w51 1) (FXJ9_floorMod_7cf53 (z50.2.1 w51 3) (nI (256))) (-1) z50.2) ∧
          let z60 := FX8_end (z50.2.1 w51 1) (FXJ9_floorMod_7cf53 (z50.2.1 w51 3) (nI (256))) (-1) z50.2
          True) ∧
        ((z50.2.1 w51 2) = 10 →
          (DX8_await (z50.2.1 w51 1) z50.2) ∧
          let z63 := FX8_await (z50.2.1 w51 1) z50.2
          True) ∧
        ((z50.2.1 w51 2) = 11 →
          (((FX10_isUser (z50.2.1 w51 3)) = 0) →
            (DX1_send (nI (3)) (z50.2.1 w51 1) (nI (50)) (-11) (nI (0)) z50.2) ∧
            let z66 := FX1_send (nI (3)) (z50.2.1 w51 1) (nI (50)) (-11) (nI (0)) z50.2
            True) ∧
          (¬ ((FX10_isUser (z50.2.1 w51 3)) = 0) →
            (¬ (z50.2.1 w51 3) < 0) ∧
            (((z50.2.1 w51 3).toNatClampNeg) < 12) ∧
            (((z50.2.1 3 ((z50.2.1 w51 3).toNatClampNeg)) = 0) →
              (DX1_send (nI (3)) (z50.2.1 w51 1) (nI (50)) (-11) (nI (0)) z50.2) ∧
              let z71 := FX1_send (nI (3)) (z50.2.1 w51 1) (nI (50)) (-11) (nI (0)) z50.2
              True) ∧
            (¬ ((z50.2.1 3 ((z50.2.1 w51 3).toNatClampNeg)) = 0) →
              (¬ (z50.2.1 w51 3) < 0) ∧
              (((z50.2.1 w51 3).toNatClampNeg) < 12) ∧
              (((z50.2.1 358 ((z50.2.1 w51 3).toNatClampNeg)) = (z50.2.1 w51 1)) →
                (DX8_end (z50.2.1 w51 3) (nI (255)) (z50.2.1 w51 1) z50.2) ∧
                let z79 := FX8_end (z50.2.1 w51 3) (nI (255)) (z50.2.1 w51 1) z50.2
                True) ∧
              (¬ ((z50.2.1 358 ((z50.2.1 w51 3).toNatClampNeg)) = (z50.2.1 w51 1)) →
                (DX1_send (nI (3)) (z50.2.1 w51 1) (nI (50)) (-11) (nI (0)) z50.2) ∧
                let z76 := FX1_send (nI (3)) (z50.2.1 w51 1) (nI (50)) (-11) (nI (0)) z50.2
                True)))) ∧
        ((z50.2.1 w51 2) = 12 →
          (¬ (z50.2.1 w51 1) < 0) ∧
          (((z50.2.1 w51 1).toNatClampNeg) < 12) ∧
          (((z50.2.1 358 ((z50.2.1 w51 1).toNatClampNeg)) = (-1)) →
            (DX1_send (nI (3)) (z50.2.1 w51 1) (nI (50)) (nI (0)) (nI (0)) z50.2) ∧
            let z89 := FX1_send (nI (3)) (z50.2.1 w51 1) (nI (50)) (nI (0)) (nI (0)) z50.2
            True) ∧
          (¬ ((z50.2.1 358 ((z50.2.1 w51 1).toNatClampNeg)) = (-1)) →
            (¬ (z50.2.1 w51 1) < 0) ∧
            (((z50.2.1 w51 1).toNatClampNeg) < 12) ∧
            (DX1_send (nI (3)) (z50.2.1 w51 1) (nI (50)) (z50.2.1 358 ((z50.2.1 w51 1).toNatClampNeg)) (nI (0)) z50.2) ∧
            let z86 := FX1_send (nI (3)) (z50.2.1 w51 1) (nI (50)) (z50.2.1 358 ((z50.2.1 w51 1).toNatClampNeg)) (nI (0)) z50.2
            True)) ∧
        ((z50.2.1 w51 2) = 32 →
          (DX8_goOn  z50.2) ∧
          let z92 := FX8_goOn  z50.2
          True) ∧
        ((∀ c ∈ ([(8, 124), (9, 134), (10, 157), (11, 167), (12, 240), (32, 116)] : List (Int32 × Nat)), ¬ (z50.2.1 w51 2) = c.1) →
          True))))
set_option maxRecDepth 100000 in
set_option maxHeartbeats 4000000 in
theorem c_X8_takeTurn {tt : Prop}  (x : xD) (hD : DX8_takeTurn  x) : ab_Met mX8_takeTurn 4 0 0 tt [.ref (357 : Nat), .ref (1 : Nat), .ref (362 : Nat)] (sX x) (xQv (FX8_takeTurn  x)) := by
  refine ab_Met.of rfl (Nat.le_of_ble_eq_true rfl) ?_
  show xV mX8_takeTurn 4 tt (xQv (FX8_takeTurn  x)) 0 [some (.ref (357 : Nat)), some (.ref (1 : Nat)), some (.ref (362 : Nat)), none, none, none] [] x
  refine ab_aload_n (pc := 0) dX8_takeTurn_0 rfl rfl ?_
  refine xo_gr (pc := 1) (a := (2 : Nat)) dX8_takeTurn_1 fl_X8_29 (by decide) rfl rfl ?_
  refine ab_iconst (pc := 4) (v := nI 3) dX8_takeTurn_4 (by decide) ?_
  refine xo_ald (pc := 5) dX8_takeTurn_5 (by decide) (Or.inr rfl) rfl (by decide) (crX_box (by decide)) ?_
  refine ab_top (w := .ref (91 : Nat)) rfl ?_
  refine ab_astore_n (pc := 6) dX8_takeTurn_6 rfl (Nat.le_of_ble_eq_true rfl) rfl ?_
  refine ab_aload_n (pc := 7) dX8_takeTurn_7 rfl rfl ?_
  refine ab_aload_n (pc := 8) dX8_takeTurn_8 rfl rfl ?_
  refine xo_gi (pc := 9) dX8_takeTurn_9 fl_X8_35 (by decide) rfl ?_
  refine ab_if_eq (pc := 12) (tgt := 23) dX8_takeTurn_12 (by decide) (fun c_12 => ?_) (fun c_12 => ?_)
  · replace hD := hD.1 c_12
    refine ab_iconst (pc := 23) (v := nI 0) dX8_takeTurn_23 (by decide) ?_
    obtain ⟨o1, hD⟩ := hD
    have e2 := c_X0_take (tt := tt) _ _ _ o1
    refine xo_invo (N := mX0_take) (pc := 24) (d' := 0) (av := [_]) dX8_takeTurn_24 ml_X8_45 fv_X0_take (by decide) (Nat.le_of_ble_eq_true rfl) (by decide) e2 (fun c_24 => ?_) (fun w4 c_24 => ?_)
    · refine ab_astoreN (pc := 27) dX8_takeTurn_27 (Nat.le_of_ble_eq_true rfl) rfl ?_
      refine ab_aloadN (pc := 29) dX8_takeTurn_29 rfl ?_
      refine ab_ifnullN (pc := 31) (tgt := 45) dX8_takeTurn_31 (by decide) ?_
      refine xo_vr (pc := 45) dX8_takeTurn_45 rfl ?_
      (rw [FX8_takeTurn]; (first | rw [if_pos c_12] | (dsimp only; rw [if_pos c_12])); (first | rw [ab_o_n c_24] | (dsimp only; rw [ab_o_n c_24])); (first | done | rfl | (dsimp only; done)))
    · replace hD := hD.2 w4 c_24
      refine ab_astore (pc := 27) dX8_takeTurn_27 (Nat.le_of_ble_eq_true rfl) rfl ?_
      refine ab_aload (pc := 29) dX8_takeTurn_29 rfl ?_
      refine ab_ifnull (pc := 31) dX8_takeTurn_31 ?_
      refine ab_aload (pc := 34) dX8_takeTurn_34 rfl ?_
      obtain ⟨o5, hD⟩ := hD
      refine xo_gi (pc := 36) dX8_takeTurn_36 fl_X8_49 o5 rfl ?_
      refine xo_invsN (N := mX10_isPart) (pc := 39) (d' := 0) (av := [_]) dX8_takeTurn_39 nn_X8_55 fs_X10_isPart (Nat.le_of_ble_eq_true rfl) (by decide) (c_X10_isPart _ _ trivial) ?_
      refine ab_if_ne (pc := 42) (tgt := 46) dX8_takeTurn_42 (by decide) (fun c_42 => ?_) (fun c_42 => ?_)
      · replace hD := hD.2 c_42
        refine ab_aload (pc := 46) dX8_takeTurn_46 rfl ?_
        refine xo_gi (pc := 48) dX8_takeTurn_48 fl_X8_49 o5 rfl ?_
        refine ab_istore (pc := 51) dX8_takeTurn_51 (Nat.le_of_ble_eq_true rfl) rfl ?_
        refine ab_aload (pc := 53) dX8_takeTurn_53 rfl ?_
        refine xo_gi (pc := 55) dX8_takeTurn_55 fl_X8_58 o5 rfl ?_
        refine ab_lsw (pc := 58) [(8, 124), (9, 134), (10, 157), (11, 167), (12, 240), (32, 116)] 275 dX8_takeTurn_58 (by decide +kernel) (by decide +kernel) (ab_c1 (fun c_58 => ?_) (ab_c1 (fun c_58 => ?_) (ab_c1 (fun c_58 => ?_) (ab_c1 (fun c_58 => ?_) (ab_c1 (fun c_58 => ?_) (ab_c1 (fun c_58 => ?_) (ab_c0))))))) (fun c_58 => ?_)
        · replace hD := hD.1 c_58
          refine ab_aload_n (pc := 124) dX8_takeTurn_124 rfl rfl ?_
          refine ab_aload_n (pc := 125) dX8_takeTurn_125 rfl rfl ?_
          refine ab_iload (pc := 126) dX8_takeTurn_126 rfl ?_
          obtain ⟨o6, hD⟩ := hD
          have e7 := c_X8_fork (tt := tt) _ _ o6
          refine xo_invv (N := mX8_fork) (pc := 128) (d' := 3) (av := [_, _]) dX8_takeTurn_128 ml_X8_65 fv_X8_fork (by decide) (Nat.le_of_ble_eq_true rfl) (by decide) e7 ?_
          refine ab_goto (pc := 131) (tgt := 275) dX8_takeTurn_131 (by decide) ?_
          refine xo_vr (pc := 275) dX8_takeTurn_275 rfl ?_
          (rw [FX8_takeTurn]; (first | rw [if_pos c_12] | (dsimp only; rw [if_pos c_12])); (first | rw [ab_o_s c_24] | (dsimp only; rw [ab_o_s c_24])); (first | rw [if_neg c_42] | (dsimp only; rw [if_neg c_42])); (first | rw [if_pos c_58] | (dsimp only; rw [if_pos c_58])); (first | done | rfl | (dsimp only; done)))
        · replace hD := hD.2.1 c_58
          refine ab_aload_n (pc := 134) dX8_takeTurn_134 rfl rfl ?_
          refine ab_aload_n (pc := 135) dX8_takeTurn_135 rfl rfl ?_
          refine ab_aload_n (pc := 136) dX8_takeTurn_136 rfl rfl ?_
          refine ab_iload (pc := 137) dX8_takeTurn_137 rfl ?_
          refine ab_aload (pc := 139) dX8_takeTurn_139 rfl ?_
          refine xo_gi (pc := 141) dX8_takeTurn_141 fl_X8_69 o5 rfl ?_
          refine ab_sipush (pc := 144) (v := nI 256) dX8_takeTurn_144 (by decide) ?_
          obtain ⟨o9, hD⟩ := hD
          have e10 := c_XJ9_floorMod_7cf53 (tt := tt) _ _ _ o9
          refine xo_invs (N := mJ9_floorMod_7cf53) (pc := 147) (d' := 0) (av := [_, _]) dX8_takeTurn_147 ml_X8_72 fs_J9_floorMod_7cf53 (Nat.le_of_ble_eq_true rfl) (by decide) e10 ?_
          refine ab_iconst (pc := 150) (v := -1) dX8_takeTurn_150 (by decide) ?_
          obtain ⟨o11, hD⟩ := hD
          have e12 := c_X8_end (tt := tt) _ _ _ _ o11
          refine xo_invv (N := mX8_end) (pc := 151) (d' := 3) (av := [_, _, _, _, _]) dX8_takeTurn_151 ml_X8_78 fv_X8_end (by decide) (Nat.le_of_ble_eq_true rfl) (by decide) e12 ?_
          refine ab_goto (pc := 154) (tgt := 275) dX8_takeTurn_154 (by decide) ?_
          refine xo_vr (pc := 275) dX8_takeTurn_275 rfl ?_
          (rw [FX8_takeTurn]; (first | rw [if_pos c_12] | (dsimp only; rw [if_pos c_12])); (first | rw [ab_o_s c_24] | (dsimp only; rw [ab_o_s c_24])); (first | rw [if_neg c_42] | (dsimp only; rw [if_neg c_42])); (first | rw [if_neg (fun h => absurd (c_58.symm.trans h) (by decide))] | (dsimp only; rw [if_neg (fun h => absurd (c_58.symm.trans h) (by decide))])); (first | rw [if_pos c_58] | (dsimp only; rw [if_pos c_58])); (first | done | rfl | (dsimp only; done)))
        · replace hD := hD.2.2.1 c_58
          refine ab_aload_n (pc := 157) dX8_takeTurn_157 rfl rfl ?_
          refine ab_aload_n (pc := 158) dX8_takeTurn_158 rfl rfl ?_
          refine ab_iload (pc := 159) dX8_takeTurn_159 rfl ?_
          obtain ⟨o14, hD⟩ := hD
          have e15 := c_X8_await (tt := tt) _ _ o14
          refine xo_invv (N := mX8_await) (pc := 161) (d' := 3) (av := [_, _]) dX8_takeTurn_161 ml_X8_82 fv_X8_await (by decide) (Nat.le_of_ble_eq_true rfl) (by decide) e15 ?_
          refine ab_goto (pc := 164) (tgt := 275) dX8_takeTurn_164 (by decide) ?_
          refine xo_vr (pc := 275) dX8_takeTurn_275 rfl ?_
          (rw [FX8_takeTurn]; (first | rw [if_pos c_12] | (dsimp only; rw [if_pos c_12])); (first | rw [ab_o_s c_24] | (dsimp only; rw [ab_o_s c_24])); (first | rw [if_neg c_42] | (dsimp only; rw [if_neg c_42])); (first | rw [if_neg (fun h => absurd (c_58.symm.trans h) (by decide))] | (dsimp only; rw [if_neg (fun h => absurd (c_58.symm.trans h) (by decide))])); (first | rw [if_neg (fun h => absurd (c_58.symm.trans h) (by decide))] | (dsimp only; rw [if_neg (fun h => absurd (c_58.symm.trans h) (by decide))])); (first | rw [if_pos c_58] | (dsimp only; rw [if_pos c_58])); (first | done | rfl | (dsimp only; done)))
        · replace hD := hD.2.2.2.1 c_58
          refine ab_aload (pc := 167) dX8_takeTurn_167 rfl ?_
          refine xo_gi (pc := 169) dX8_takeTurn_169 fl_X8_69 o5 rfl ?_
          refine xo_invsN (N := mX10_isUser) (pc := 172) (d' := 0) (av := [_]) dX8_takeTurn_172 nn_X8_25 fs_X10_isUser (Nat.le_of_ble_eq_true rfl) (by decide) (c_X10_isUser _ _ trivial) ?_
          refine ab_if_eq (pc := 175) (tgt := 225) dX8_takeTurn_175 (by decide) (fun c_175 => ?_) (fun c_175 => ?_)
          · replace hD := hD.1 c_175
            refine ab_aload_n (pc := 225) dX8_takeTurn_225 rfl rfl ?_
            refine ab_iconst (pc := 226) (v := nI 3) dX8_takeTurn_226 (by decide) ?_
            refine ab_iload (pc := 227) dX8_takeTurn_227 rfl ?_
            refine ab_bipush (pc := 229) (v := nI 50) dX8_takeTurn_229 (by decide) ?_
            refine ab_bipush (pc := 231) (v := -11) dX8_takeTurn_231 (by decide) ?_
            refine ab_iconst (pc := 233) (v := nI 0) dX8_takeTurn_233 (by decide) ?_
            obtain ⟨o17, hD⟩ := hD
            have e18 := c_X1_send (tt := tt) _ _ _ _ _ _ o17
            refine xo_invv (N := mX1_send) (pc := 234) (d' := 2) (av := [_, _, _, _, _]) dX8_takeTurn_234 ml_X8_88 fv_X1_send (by decide) (Nat.le_of_ble_eq_true rfl) (by decide) e18 ?_
            refine ab_goto (pc := 237) (tgt := 275) dX8_takeTurn_237 (by decide) ?_
            refine xo_vr (pc := 275) dX8_takeTurn_275 rfl ?_
            (rw [FX8_takeTurn]; (first | rw [if_pos c_12] | (dsimp only; rw [if_pos c_12])); (first | rw [ab_o_s c_24] | (dsimp only; rw [ab_o_s c_24])); (first | rw [if_neg c_42] | (dsimp only; rw [if_neg c_42])); (first | rw [if_neg (fun h => absurd (c_58.symm.trans h) (by decide))] | (dsimp only; rw [if_neg (fun h => absurd (c_58.symm.trans h) (by decide))])); (first | rw [if_neg (fun h => absurd (c_58.symm.trans h) (by decide))] | (dsimp only; rw [if_neg (fun h => absurd (c_58.symm.trans h) (by decide))])); (first | rw [if_neg (fun h => absurd (c_58.symm.trans h) (by decide))] | (dsimp only; rw [if_neg (fun h => absurd (c_58.symm.trans h) (by decide))])); (first | rw [if_pos c_58] | (dsimp only; rw [if_pos c_58])); (first | rw [if_pos c_175] | (dsimp only; rw [if_pos c_175])); (first | done | rfl | (dsimp only; done)))
          · replace hD := hD.2 c_175
            refine ab_aload_n (pc := 178) dX8_takeTurn_178 rfl rfl ?_
            refine xo_gr (pc := 179) (a := (3 : Nat)) dX8_takeTurn_179 fl_X8_85 (by decide) rfl rfl ?_
            refine ab_aload (pc := 182) dX8_takeTurn_182 rfl ?_
            refine xo_gi (pc := 184) dX8_takeTurn_184 fl_X8_69 o5 rfl ?_
            obtain ⟨o20, hD⟩ := hD
            refine ab_nat1 (ab_nat o20) ?_
            obtain ⟨o21, hD⟩ := hD
            refine xo_zld (pc := 187) dX8_takeTurn_187 (by decide) rfl o21 (by decide) ?_
            refine ab_if_eq (pc := 188) (tgt := 225) dX8_takeTurn_188 (by decide) (fun c_188 => ?_) (fun c_188 => ?_)
            · replace hD := hD.1 c_188
              refine ab_aload_n (pc := 225) dX8_takeTurn_225 rfl rfl ?_
              refine ab_iconst (pc := 226) (v := nI 3) dX8_takeTurn_226 (by decide) ?_
              refine ab_iload (pc := 227) dX8_takeTurn_227 rfl ?_
              refine ab_bipush (pc := 229) (v := nI 50) dX8_takeTurn_229 (by decide) ?_
              refine ab_bipush (pc := 231) (v := -11) dX8_takeTurn_231 (by decide) ?_
              refine ab_iconst (pc := 233) (v := nI 0) dX8_takeTurn_233 (by decide) ?_
              obtain ⟨o22, hD⟩ := hD
              have e23 := c_X1_send (tt := tt) _ _ _ _ _ _ o22
              refine xo_invv (N := mX1_send) (pc := 234) (d' := 2) (av := [_, _, _, _, _]) dX8_takeTurn_234 ml_X8_88 fv_X1_send (by decide) (Nat.le_of_ble_eq_true rfl) (by decide) e23 ?_
              refine ab_goto (pc := 237) (tgt := 275) dX8_takeTurn_237 (by decide) ?_
              refine xo_vr (pc := 275) dX8_takeTurn_275 rfl ?_
              (rw [FX8_takeTurn]; (first | rw [if_pos c_12] | (dsimp only; rw [if_pos c_12])); (first | rw [ab_o_s c_24] | (dsimp only; rw [ab_o_s c_24])); (first | rw [if_neg c_42] | (dsimp only; rw [if_neg c_42])); (first | rw [if_neg (fun h => absurd (c_58.symm.trans h) (by decide))] | (dsimp only; rw [if_neg (fun h => absurd (c_58.symm.trans h) (by decide))])); (first | rw [if_neg (fun h => absurd (c_58.symm.trans h) (by decide))] | (dsimp only; rw [if_neg (fun h => absurd (c_58.symm.trans h) (by decide))])); (first | rw [if_neg (fun h => absurd (c_58.symm.trans h) (by decide))] | (dsimp only; rw [if_neg (fun h => absurd (c_58.symm.trans h) (by decide))])); (first | rw [if_pos c_58] | (dsimp only; rw [if_pos c_58])); (first | rw [if_neg c_175] | (dsimp only; rw [if_neg c_175])); (first | rw [if_pos c_188] | (dsimp only; rw [if_pos c_188])); (first | done | rfl | (dsimp only; done)))
            · replace hD := hD.2 c_188
              refine ab_aload_n (pc := 191) dX8_takeTurn_191 rfl rfl ?_
              refine xo_gr (pc := 192) (a := (358 : Nat)) dX8_takeTurn_192 fl_X8_9 (by decide) rfl rfl ?_
              refine ab_aload (pc := 195) dX8_takeTurn_195 rfl ?_
              refine xo_gi (pc := 197) dX8_takeTurn_197 fl_X8_69 o5 rfl ?_
              obtain ⟨o25, hD⟩ := hD
              refine ab_nat1 (ab_nat o25) ?_
              obtain ⟨o26, hD⟩ := hD
              refine xo_ild (pc := 200) dX8_takeTurn_200 (by decide) rfl o26 (by decide) ?_
              refine ab_iload (pc := 201) dX8_takeTurn_201 rfl ?_
              refine ab_icmp_ne (pc := 203) (tgt := 225) dX8_takeTurn_203 (by decide) (fun c_203 => ?_) (fun c_203 => ?_)
              · replace hD := hD.2 c_203
                refine ab_aload_n (pc := 225) dX8_takeTurn_225 rfl rfl ?_
                refine ab_iconst (pc := 226) (v := nI 3) dX8_takeTurn_226 (by decide) ?_
                refine ab_iload (pc := 227) dX8_takeTurn_227 rfl ?_
                refine ab_bipush (pc := 229) (v := nI 50) dX8_takeTurn_229 (by decide) ?_
                refine ab_bipush (pc := 231) (v := -11) dX8_takeTurn_231 (by decide) ?_
                refine ab_iconst (pc := 233) (v := nI 0) dX8_takeTurn_233 (by decide) ?_
                obtain ⟨o27, hD⟩ := hD
                have e28 := c_X1_send (tt := tt) _ _ _ _ _ _ o27
                refine xo_invv (N := mX1_send) (pc := 234) (d' := 2) (av := [_, _, _, _, _]) dX8_takeTurn_234 ml_X8_88 fv_X1_send (by decide) (Nat.le_of_ble_eq_true rfl) (by decide) e28 ?_
                refine ab_goto (pc := 237) (tgt := 275) dX8_takeTurn_237 (by decide) ?_
                refine xo_vr (pc := 275) dX8_takeTurn_275 rfl ?_
                (rw [FX8_takeTurn]; (first | rw [if_pos c_12] | (dsimp only; rw [if_pos c_12])); (first | rw [ab_o_s c_24] | (dsimp only; rw [ab_o_s c_24])); (first | rw [if_neg c_42] | (dsimp only; rw [if_neg c_42])); (first | rw [if_neg (fun h => absurd (c_58.symm.trans h) (by decide))] | (dsimp only; rw [if_neg (fun h => absurd (c_58.symm.trans h) (by decide))])); (first | rw [if_neg (fun h => absurd (c_58.symm.trans h) (by decide))] | (dsimp only; rw [if_neg (fun h => absurd (c_58.symm.trans h) (by decide))])); (first | rw [if_neg (fun h => absurd (c_58.symm.trans h) (by decide))] | (dsimp only; rw [if_neg (fun h => absurd (c_58.symm.trans h) (by decide))])); (first | rw [if_pos c_58] | (dsimp only; rw [if_pos c_58])); (first | rw [if_neg c_175] | (dsimp only; rw [if_neg c_175])); (first | rw [if_neg c_188] | (dsimp only; rw [if_neg c_188])); (first | rw [if_neg c_203] | (dsimp only; rw [if_neg c_203])); (first | done | rfl | (dsimp only; done)))
              · replace hD := hD.1 c_203
                refine ab_aload_n (pc := 206) dX8_takeTurn_206 rfl rfl ?_
                refine ab_aload_n (pc := 207) dX8_takeTurn_207 rfl rfl ?_
                refine ab_aload_n (pc := 208) dX8_takeTurn_208 rfl rfl ?_
                refine ab_aload (pc := 209) dX8_takeTurn_209 rfl ?_
                refine xo_gi (pc := 211) dX8_takeTurn_211 fl_X8_69 o5 rfl ?_
                refine ab_sipush (pc := 214) (v := nI 255) dX8_takeTurn_214 (by decide) ?_
                refine ab_iload (pc := 217) dX8_takeTurn_217 rfl ?_
                obtain ⟨o30, hD⟩ := hD
                have e31 := c_X8_end (tt := tt) _ _ _ _ o30
                refine xo_invv (N := mX8_end) (pc := 219) (d' := 3) (av := [_, _, _, _, _]) dX8_takeTurn_219 ml_X8_78 fv_X8_end (by decide) (Nat.le_of_ble_eq_true rfl) (by decide) e31 ?_
                refine ab_goto (pc := 222) (tgt := 275) dX8_takeTurn_222 (by decide) ?_
                refine xo_vr (pc := 275) dX8_takeTurn_275 rfl ?_
                (rw [FX8_takeTurn]; (first | rw [if_pos c_12] | (dsimp only; rw [if_pos c_12])); (first | rw [ab_o_s c_24] | (dsimp only; rw [ab_o_s c_24])); (first | rw [if_neg c_42] | (dsimp only; rw [if_neg c_42])); (first | rw [if_neg (fun h => absurd (c_58.symm.trans h) (by decide))] | (dsimp only; rw [if_neg (fun h => absurd (c_58.symm.trans h) (by decide))])); (first | rw [if_neg (fun h => absurd (c_58.symm.trans h) (by decide))] | (dsimp only; rw [if_neg (fun h => absurd (c_58.symm.trans h) (by decide))])); (first | rw [if_neg (fun h => absurd (c_58.symm.trans h) (by decide))] | (dsimp only; rw [if_neg (fun h => absurd (c_58.symm.trans h) (by decide))])); (first | rw [if_pos c_58] | (dsimp only; rw [if_pos c_58])); (first | rw [if_neg c_175] | (dsimp only; rw [if_neg c_175])); (first | rw [if_neg c_188] | (dsimp only; rw [if_neg c_188])); (first | rw [if_pos c_203] | (dsimp only; rw [if_pos c_203])); (first | done | rfl | (dsimp only; done)))
        · replace hD := hD.2.2.2.2.1 c_58
          refine ab_aload_n (pc := 240) dX8_takeTurn_240 rfl rfl ?_
          refine ab_iconst (pc := 241) (v := nI 3) dX8_takeTurn_241 (by decide) ?_
          refine ab_iload (pc := 242) dX8_takeTurn_242 rfl ?_
          refine ab_bipush (pc := 244) (v := nI 50) dX8_takeTurn_244 (by decide) ?_
          refine ab_aload_n (pc := 246) dX8_takeTurn_246 rfl rfl ?_
          refine xo_gr (pc := 247) (a := (358 : Nat)) dX8_takeTurn_247 fl_X8_9 (by decide) rfl rfl ?_
          refine ab_iload (pc := 250) dX8_takeTurn_250 rfl ?_
          obtain ⟨o33, hD⟩ := hD
          refine ab_nat1 (ab_nat o33) ?_
          obtain ⟨o34, hD⟩ := hD
          refine xo_ild (pc := 252) dX8_takeTurn_252 (by decide) rfl o34 (by decide) ?_
          refine ab_iconst (pc := 253) (v := -1) dX8_takeTurn_253 (by decide) ?_
          refine ab_icmp_ne (pc := 254) (tgt := 261) dX8_takeTurn_254 (by decide) (fun c_254 => ?_) (fun c_254 => ?_)
          · replace hD := hD.2 c_254
            refine ab_aload_n (pc := 261) dX8_takeTurn_261 rfl rfl ?_
            refine xo_gr (pc := 262) (a := (358 : Nat)) dX8_takeTurn_262 fl_X8_9 (by decide) rfl rfl ?_
            refine ab_iload (pc := 265) dX8_takeTurn_265 rfl ?_
            obtain ⟨o35, hD⟩ := hD
            refine ab_nat1 (ab_nat o35) ?_
            obtain ⟨o36, hD⟩ := hD
            refine xo_ild (pc := 267) dX8_takeTurn_267 (by decide) rfl o36 (by decide) ?_
            refine ab_iconst (pc := 268) (v := nI 0) dX8_takeTurn_268 (by decide) ?_
            obtain ⟨o37, hD⟩ := hD
            have e38 := c_X1_send (tt := tt) _ _ _ _ _ _ o37
            refine xo_invv (N := mX1_send) (pc := 269) (d' := 2) (av := [_, _, _, _, _]) dX8_takeTurn_269 ml_X8_88 fv_X1_send (by decide) (Nat.le_of_ble_eq_true rfl) (by decide) e38 ?_
            refine ab_goto (pc := 272) (tgt := 275) dX8_takeTurn_272 (by decide) ?_
            refine xo_vr (pc := 275) dX8_takeTurn_275 rfl ?_
            (rw [FX8_takeTurn]; (first | rw [if_pos c_12] | (dsimp only; rw [if_pos c_12])); (first | rw [ab_o_s c_24] | (dsimp only; rw [ab_o_s c_24])); (first | rw [if_neg c_42] | (dsimp only; rw [if_neg c_42])); (first | rw [if_neg (fun h => absurd (c_58.symm.trans h) (by decide))] | (dsimp only; rw [if_neg (fun h => absurd (c_58.symm.trans h) (by decide))])); (first | rw [if_neg (fun h => absurd (c_58.symm.trans h) (by decide))] | (dsimp only; rw [if_neg (fun h => absurd (c_58.symm.trans h) (by decide))])); (first | rw [if_neg (fun h => absurd (c_58.symm.trans h) (by decide))] | (dsimp only; rw [if_neg (fun h => absurd (c_58.symm.trans h) (by decide))])); (first | rw [if_neg (fun h => absurd (c_58.symm.trans h) (by decide))] | (dsimp only; rw [if_neg (fun h => absurd (c_58.symm.trans h) (by decide))])); (first | rw [if_pos c_58] | (dsimp only; rw [if_pos c_58])); (first | rw [if_neg c_254] | (dsimp only; rw [if_neg c_254])); (first | done | rfl | (dsimp only; done)))
          · replace hD := hD.1 c_254
            refine ab_iconst (pc := 257) (v := nI 0) dX8_takeTurn_257 (by decide) ?_
            refine ab_goto (pc := 258) (tgt := 268) dX8_takeTurn_258 (by decide) ?_
            refine ab_iconst (pc := 268) (v := nI 0) dX8_takeTurn_268 (by decide) ?_
            obtain ⟨o40, hD⟩ := hD
            have e41 := c_X1_send (tt := tt) _ _ _ _ _ _ o40
            refine xo_invv (N := mX1_send) (pc := 269) (d' := 2) (av := [_, _, _, _, _]) dX8_takeTurn_269 ml_X8_88 fv_X1_send (by decide) (Nat.le_of_ble_eq_true rfl) (by decide) e41 ?_
            refine ab_goto (pc := 272) (tgt := 275) dX8_takeTurn_272 (by decide) ?_
            refine xo_vr (pc := 275) dX8_takeTurn_275 rfl ?_
            (rw [FX8_takeTurn]; (first | rw [if_pos c_12] | (dsimp only; rw [if_pos c_12])); (first | rw [ab_o_s c_24] | (dsimp only; rw [ab_o_s c_24])); (first | rw [if_neg c_42] | (dsimp only; rw [if_neg c_42])); (first | rw [if_neg (fun h => absurd (c_58.symm.trans h) (by decide))] | (dsimp only; rw [if_neg (fun h => absurd (c_58.symm.trans h) (by decide))])); (first | rw [if_neg (fun h => absurd (c_58.symm.trans h) (by decide))] | (dsimp only; rw [if_neg (fun h => absurd (c_58.symm.trans h) (by decide))])); (first | rw [if_neg (fun h => absurd (c_58.symm.trans h) (by decide))] | (dsimp only; rw [if_neg (fun h => absurd (c_58.symm.trans h) (by decide))])); (first | rw [if_neg (fun h => absurd (c_58.symm.trans h) (by decide))] | (dsimp only; rw [if_neg (fun h => absurd (c_58.symm.trans h) (by decide))])); (first | rw [if_pos c_58] | (dsimp only; rw [if_pos c_58])); (first | rw [if_pos c_254] | (dsimp only; rw [if_pos c_254])); (first | done | rfl | (dsimp only; done)))
        · replace hD := hD.2.2.2.2.2.1 c_58
          refine ab_aload_n (pc := 116) dX8_takeTurn_116 rfl rfl ?_
          refine ab_aload_n (pc := 117) dX8_takeTurn_117 rfl rfl ?_
          obtain ⟨o43, hD⟩ := hD
          have e44 := c_X8_goOn (tt := tt)  _ o43
          refine xo_invv (N := mX8_goOn) (pc := 118) (d' := 3) (av := [_]) dX8_takeTurn_118 ml_X8_61 fv_X8_goOn (by decide) (Nat.le_of_ble_eq_true rfl) (by decide) e44 ?_
          refine ab_goto (pc := 121) (tgt := 275) dX8_takeTurn_121 (by decide) ?_
          refine xo_vr (pc := 275) dX8_takeTurn_275 rfl ?_
          (rw [FX8_takeTurn]; (first | rw [if_pos c_12] | (dsimp only; rw [if_pos c_12])); (first | rw [ab_o_s c_24] | (dsimp only; rw [ab_o_s c_24])); (first | rw [if_neg c_42] | (dsimp only; rw [if_neg c_42])); (first | rw [if_neg (fun h => absurd (c_58.symm.trans h) (by decide))] | (dsimp only; rw [if_neg (fun h => absurd (c_58.symm.trans h) (by decide))])); (first | rw [if_neg (fun h => absurd (c_58.symm.trans h) (by decide))] | (dsimp only; rw [if_neg (fun h => absurd (c_58.symm.trans h) (by decide))])); (first | rw [if_neg (fun h => absurd (c_58.symm.trans h) (by decide))] | (dsimp only; rw [if_neg (fun h => absurd (c_58.symm.trans h) (by decide))])); (first | rw [if_neg (fun h => absurd (c_58.symm.trans h) (by decide))] | (dsimp only; rw [if_neg (fun h => absurd (c_58.symm.trans h) (by decide))])); (first | rw [if_neg (fun h => absurd (c_58.symm.trans h) (by decide))] | (dsimp only; rw [if_neg (fun h => absurd (c_58.symm.trans h) (by decide))])); (first | rw [if_pos c_58] | (dsimp only; rw [if_pos c_58])); (first | done | rfl | (dsimp only; done)))
        · refine xo_vr (pc := 275) dX8_takeTurn_275 rfl ?_
          (rw [FX8_takeTurn]; (first | rw [if_pos c_12] | (dsimp only; rw [if_pos c_12])); (first | rw [ab_o_s c_24] | (dsimp only; rw [ab_o_s c_24])); (first | rw [if_neg c_42] | (dsimp only; rw [if_neg c_42])); (first | rw [if_neg (c_58 _ (List.mem_of_getElem? (i := 0) rfl))] | (dsimp only; rw [if_neg (c_58 _ (List.mem_of_getElem? (i := 0) rfl))])); (first | rw [if_neg (c_58 _ (List.mem_of_getElem? (i := 1) rfl))] | (dsimp only; rw [if_neg (c_58 _ (List.mem_of_getElem? (i := 1) rfl))])); (first | rw [if_neg (c_58 _ (List.mem_of_getElem? (i := 2) rfl))] | (dsimp only; rw [if_neg (c_58 _ (List.mem_of_getElem? (i := 2) rfl))])); (first | rw [if_neg (c_58 _ (List.mem_of_getElem? (i := 3) rfl))] | (dsimp only; rw [if_neg (c_58 _ (List.mem_of_getElem? (i := 3) rfl))])); (first | rw [if_neg (c_58 _ (List.mem_of_getElem? (i := 4) rfl))] | (dsimp only; rw [if_neg (c_58 _ (List.mem_of_getElem? (i := 4) rfl))])); (first | rw [if_neg (c_58 _ (List.mem_of_getElem? (i := 5) rfl))] | (dsimp only; rw [if_neg (c_58 _ (List.mem_of_getElem? (i := 5) rfl))])); (first | done | rfl | (dsimp only; done)))
      · refine xo_vr (pc := 45) dX8_takeTurn_45 rfl ?_
        (rw [FX8_takeTurn]; (first | rw [if_pos c_12] | (dsimp only; rw [if_pos c_12])); (first | rw [ab_o_s c_24] | (dsimp only; rw [ab_o_s c_24])); (first | rw [if_pos c_42] | (dsimp only; rw [if_pos c_42])); (first | done | rfl | (dsimp only; done)))
  · replace hD := hD.2 c_12
    refine ab_aload_n (pc := 15) dX8_takeTurn_15 rfl rfl ?_
    refine ab_iconst (pc := 16) (v := nI 4) dX8_takeTurn_16 (by decide) ?_
    obtain ⟨o46, hD⟩ := hD
    have e47 := c_X0_firstFor (tt := tt) _ _ _ o46
    refine xo_invr (N := mX0_firstFor) (pc := 17) (d' := 0) (av := [_]) dX8_takeTurn_17 ml_X8_39 fv_X0_firstFor (by decide) (Nat.le_of_ble_eq_true rfl) (by decide) e47 ?_
    refine ab_goto (pc := 20) (tgt := 24) dX8_takeTurn_20 (by decide) ?_
    obtain ⟨o48, hD⟩ := hD
    have e49 := c_X0_take (tt := tt) _ _ _ o48
    refine xo_invo (N := mX0_take) (pc := 24) (d' := 0) (av := [_]) dX8_takeTurn_24 ml_X8_45 fv_X0_take (by decide) (Nat.le_of_ble_eq_true rfl) (by decide) e49 (fun c_24 => ?_) (fun w51 c_24 => ?_)
    · refine ab_astoreN (pc := 27) dX8_takeTurn_27 (Nat.le_of_ble_eq_true rfl) rfl ?_
      refine ab_aloadN (pc := 29) dX8_takeTurn_29 rfl ?_
      refine ab_ifnullN (pc := 31) (tgt := 45) dX8_takeTurn_31 (by decide) ?_
      refine xo_vr (pc := 45) dX8_takeTurn_45 rfl ?_
      (rw [FX8_takeTurn]; (first | rw [if_neg c_12] | (dsimp only; rw [if_neg c_12])); (first | rw [ab_o_n c_24] | (dsimp only; rw [ab_o_n c_24])); (first | done | rfl | (dsimp only; done)))
    · replace hD := hD.2 w51 c_24
      refine ab_astore (pc := 27) dX8_takeTurn_27 (Nat.le_of_ble_eq_true rfl) rfl ?_
      refine ab_aload (pc := 29) dX8_takeTurn_29 rfl ?_
      refine ab_ifnull (pc := 31) dX8_takeTurn_31 ?_
      refine ab_aload (pc := 34) dX8_takeTurn_34 rfl ?_
      obtain ⟨o52, hD⟩ := hD
      refine xo_gi (pc := 36) dX8_takeTurn_36 fl_X8_49 o52 rfl ?_
      refine xo_invsN (N := mX10_isPart) (pc := 39) (d' := 0) (av := [_]) dX8_takeTurn_39 nn_X8_55 fs_X10_isPart (Nat.le_of_ble_eq_true rfl) (by decide) (c_X10_isPart _ _ trivial) ?_
      refine ab_if_ne (pc := 42) (tgt := 46) dX8_takeTurn_42 (by decide) (fun c_42 => ?_) (fun c_42 => ?_)
      · replace hD := hD.2 c_42
        refine ab_aload (pc := 46) dX8_takeTurn_46 rfl ?_
        refine xo_gi (pc := 48) dX8_takeTurn_48 fl_X8_49 o52 rfl ?_
        refine ab_istore (pc := 51) dX8_takeTurn_51 (Nat.le_of_ble_eq_true rfl) rfl ?_
        refine ab_aload (pc := 53) dX8_takeTurn_53 rfl ?_
        refine xo_gi (pc := 55) dX8_takeTurn_55 fl_X8_58 o52 rfl ?_
        refine ab_lsw (pc := 58) [(8, 124), (9, 134), (10, 157), (11, 167), (12, 240), (32, 116)] 275 dX8_takeTurn_58 (by decide +kernel) (by decide +kernel) (ab_c1 (fun c_58 => ?_) (ab_c1 (fun c_58 => ?_) (ab_c1 (fun c_58 => ?_) (ab_c1 (fun c_58 => ?_) (ab_c1 (fun c_58 => ?_) (ab_c1 (fun c_58 => ?_) (ab_c0))))))) (fun c_58 => ?_)
        · replace hD := hD.1 c_58
          refine ab_aload_n (pc := 124) dX8_takeTurn_124 rfl rfl ?_
          refine ab_aload_n (pc := 125) dX8_takeTurn_125 rfl rfl ?_
          refine ab_iload (pc := 126) dX8_takeTurn_126 rfl ?_
          obtain ⟨o53, hD⟩ := hD
          have e54 := c_X8_fork (tt := tt) _ _ o53
          refine xo_invv (N := mX8_fork) (pc := 128) (d' := 3) (av := [_, _]) dX8_takeTurn_128 ml_X8_65 fv_X8_fork (by decide) (Nat.le_of_ble_eq_true rfl) (by decide) e54 ?_
          refine ab_goto (pc := 131) (tgt := 275) dX8_takeTurn_131 (by decide) ?_
          refine xo_vr (pc := 275) dX8_takeTurn_275 rfl ?_
          (rw [FX8_takeTurn]; (first | rw [if_neg c_12] | (dsimp only; rw [if_neg c_12])); (first | rw [ab_o_s c_24] | (dsimp only; rw [ab_o_s c_24])); (first | rw [if_neg c_42] | (dsimp only; rw [if_neg c_42])); (first | rw [if_pos c_58] | (dsimp only; rw [if_pos c_58])); (first | done | rfl | (dsimp only; done)))
        · replace hD := hD.2.1 c_58
          refine ab_aload_n (pc := 134) dX8_takeTurn_134 rfl rfl ?_
          refine ab_aload_n (pc := 135) dX8_takeTurn_135 rfl rfl ?_
          refine ab_aload_n (pc := 136) dX8_takeTurn_136 rfl rfl ?_
          refine ab_iload (pc := 137) dX8_takeTurn_137 rfl ?_
          refine ab_aload (pc := 139) dX8_takeTurn_139 rfl ?_
          refine xo_gi (pc := 141) dX8_takeTurn_141 fl_X8_69 o52 rfl ?_
          refine ab_sipush (pc := 144) (v := nI 256) dX8_takeTurn_144 (by decide) ?_
          obtain ⟨o56, hD⟩ := hD
          have e57 := c_XJ9_floorMod_7cf53 (tt := tt) _ _ _ o56
          refine xo_invs (N := mJ9_floorMod_7cf53) (pc := 147) (d' := 0) (av := [_, _]) dX8_takeTurn_147 ml_X8_72 fs_J9_floorMod_7cf53 (Nat.le_of_ble_eq_true rfl) (by decide) e57 ?_
          refine ab_iconst (pc := 150) (v := -1) dX8_takeTurn_150 (by decide) ?_
          obtain ⟨o58, hD⟩ := hD
          have e59 := c_X8_end (tt := tt) _ _ _ _ o58
          refine xo_invv (N := mX8_end) (pc := 151) (d' := 3) (av := [_, _, _, _, _]) dX8_takeTurn_151 ml_X8_78 fv_X8_end (by decide) (Nat.le_of_ble_eq_true rfl) (by decide) e59 ?_
          refine ab_goto (pc := 154) (tgt := 275) dX8_takeTurn_154 (by decide) ?_
          refine xo_vr (pc := 275) dX8_takeTurn_275 rfl ?_
          (rw [FX8_takeTurn]; (first | rw [if_neg c_12] | (dsimp only; rw [if_neg c_12])); (first | rw [ab_o_s c_24] | (dsimp only; rw [ab_o_s c_24])); (first | rw [if_neg c_42] | (dsimp only; rw [if_neg c_42])); (first | rw [if_neg (fun h => absurd (c_58.symm.trans h) (by decide))] | (dsimp only; rw [if_neg (fun h => absurd (c_58.symm.trans h) (by decide))])); (first | rw [if_pos c_58] | (dsimp only; rw [if_pos c_58])); (first | done | rfl | (dsimp only; done)))
        · replace hD := hD.2.2.1 c_58
          refine ab_aload_n (pc := 157) dX8_takeTurn_157 rfl rfl ?_
          refine ab_aload_n (pc := 158) dX8_takeTurn_158 rfl rfl ?_
          refine ab_iload (pc := 159) dX8_takeTurn_159 rfl ?_
          obtain ⟨o61, hD⟩ := hD
          have e62 := c_X8_await (tt := tt) _ _ o61
          refine xo_invv (N := mX8_await) (pc := 161) (d' := 3) (av := [_, _]) dX8_takeTurn_161 ml_X8_82 fv_X8_await (by decide) (Nat.le_of_ble_eq_true rfl) (by decide) e62 ?_
          refine ab_goto (pc := 164) (tgt := 275) dX8_takeTurn_164 (by decide) ?_
          refine xo_vr (pc := 275) dX8_takeTurn_275 rfl ?_
          (rw [FX8_takeTurn]; (first | rw [if_neg c_12] | (dsimp only; rw [if_neg c_12])); (first | rw [ab_o_s c_24] | (dsimp only; rw [ab_o_s c_24])); (first | rw [if_neg c_42] | (dsimp only; rw [if_neg c_42])); (first | rw [if_neg (fun h => absurd (c_58.symm.trans h) (by decide))] | (dsimp only; rw [if_neg (fun h => absurd (c_58.symm.trans h) (by decide))])); (first | rw [if_neg (fun h => absurd (c_58.symm.trans h) (by decide))] | (dsimp only; rw [if_neg (fun h => absurd (c_58.symm.trans h) (by decide))])); (first | rw [if_pos c_58] | (dsimp only; rw [if_pos c_58])); (first | done | rfl | (dsimp only; done)))
        · replace hD := hD.2.2.2.1 c_58
          refine ab_aload (pc := 167) dX8_takeTurn_167 rfl ?_
          refine xo_gi (pc := 169) dX8_takeTurn_169 fl_X8_69 o52 rfl ?_
          refine xo_invsN (N := mX10_isUser) (pc := 172) (d' := 0) (av := [_]) dX8_takeTurn_172 nn_X8_25 fs_X10_isUser (Nat.le_of_ble_eq_true rfl) (by decide) (c_X10_isUser _ _ trivial) ?_
          refine ab_if_eq (pc := 175) (tgt := 225) dX8_takeTurn_175 (by decide) (fun c_175 => ?_) (fun c_175 => ?_)
          · replace hD := hD.1 c_175
            refine ab_aload_n (pc := 225) dX8_takeTurn_225 rfl rfl ?_
            refine ab_iconst (pc := 226) (v := nI 3) dX8_takeTurn_226 (by decide) ?_
            refine ab_iload (pc := 227) dX8_takeTurn_227 rfl ?_
            refine ab_bipush (pc := 229) (v := nI 50) dX8_takeTurn_229 (by decide) ?_
            refine ab_bipush (pc := 231) (v := -11) dX8_takeTurn_231 (by decide) ?_
            refine ab_iconst (pc := 233) (v := nI 0) dX8_takeTurn_233 (by decide) ?_
            obtain ⟨o64, hD⟩ := hD
            have e65 := c_X1_send (tt := tt) _ _ _ _ _ _ o64
            refine xo_invv (N := mX1_send) (pc := 234) (d' := 2) (av := [_, _, _, _, _]) dX8_takeTurn_234 ml_X8_88 fv_X1_send (by decide) (Nat.le_of_ble_eq_true rfl) (by decide) e65 ?_
            refine ab_goto (pc := 237) (tgt := 275) dX8_takeTurn_237 (by decide) ?_
            refine xo_vr (pc := 275) dX8_takeTurn_275 rfl ?_
            (rw [FX8_takeTurn]; (first | rw [if_neg c_12] | (dsimp only; rw [if_neg c_12])); (first | rw [ab_o_s c_24] | (dsimp only; rw [ab_o_s c_24])); (first | rw [if_neg c_42] | (dsimp only; rw [if_neg c_42])); (first | rw [if_neg (fun h => absurd (c_58.symm.trans h) (by decide))] | (dsimp only; rw [if_neg (fun h => absurd (c_58.symm.trans h) (by decide))])); (first | rw [if_neg (fun h => absurd (c_58.symm.trans h) (by decide))] | (dsimp only; rw [if_neg (fun h => absurd (c_58.symm.trans h) (by decide))])); (first | rw [if_neg (fun h => absurd (c_58.symm.trans h) (by decide))] | (dsimp only; rw [if_neg (fun h => absurd (c_58.symm.trans h) (by decide))])); (first | rw [if_pos c_58] | (dsimp only; rw [if_pos c_58])); (first | rw [if_pos c_175] | (dsimp only; rw [if_pos c_175])); (first | done | rfl | (dsimp only; done)))
          · replace hD := hD.2 c_175
            refine ab_aload_n (pc := 178) dX8_takeTurn_178 rfl rfl ?_
            refine xo_gr (pc := 179) (a := (3 : Nat)) dX8_takeTurn_179 fl_X8_85 (by decide) rfl rfl ?_
            refine ab_aload (pc := 182) dX8_takeTurn_182 rfl ?_
            refine xo_gi (pc := 184) dX8_takeTurn_184 fl_X8_69 o52 rfl ?_
            obtain ⟨o67, hD⟩ := hD
            refine ab_nat1 (ab_nat o67) ?_
            obtain ⟨o68, hD⟩ := hD
            refine xo_zld (pc := 187) dX8_takeTurn_187 (by decide) rfl o68 (by decide) ?_
            refine ab_if_eq (pc := 188) (tgt := 225) dX8_takeTurn_188 (by decide) (fun c_188 => ?_) (fun c_188 => ?_)
            · replace hD := hD.1 c_188
              refine ab_aload_n (pc := 225) dX8_takeTurn_225 rfl rfl ?_
              refine ab_iconst (pc := 226) (v := nI 3) dX8_takeTurn_226 (by decide) ?_
              refine ab_iload (pc := 227) dX8_takeTurn_227 rfl ?_
              refine ab_bipush (pc := 229) (v := nI 50) dX8_takeTurn_229 (by decide) ?_
              refine ab_bipush (pc := 231) (v := -11) dX8_takeTurn_231 (by decide) ?_
              refine ab_iconst (pc := 233) (v := nI 0) dX8_takeTurn_233 (by decide) ?_
              obtain ⟨o69, hD⟩ := hD
              have e70 := c_X1_send (tt := tt) _ _ _ _ _ _ o69
              refine xo_invv (N := mX1_send) (pc := 234) (d' := 2) (av := [_, _, _, _, _]) dX8_takeTurn_234 ml_X8_88 fv_X1_send (by decide) (Nat.le_of_ble_eq_true rfl) (by decide) e70 ?_
              refine ab_goto (pc := 237) (tgt := 275) dX8_takeTurn_237 (by decide) ?_
              refine xo_vr (pc := 275) dX8_takeTurn_275 rfl ?_
              (rw [FX8_takeTurn]; (first | rw [if_neg c_12] | (dsimp only; rw [if_neg c_12])); (first | rw [ab_o_s c_24] | (dsimp only; rw [ab_o_s c_24])); (first | rw [if_neg c_42] | (dsimp only; rw [if_neg c_42])); (first | rw [if_neg (fun h => absurd (c_58.symm.trans h) (by decide))] | (dsimp only; rw [if_neg (fun h => absurd (c_58.symm.trans h) (by decide))])); (first | rw [if_neg (fun h => absurd (c_58.symm.trans h) (by decide))] | (dsimp only; rw [if_neg (fun h => absurd (c_58.symm.trans h) (by decide))])); (first | rw [if_neg (fun h => absurd (c_58.symm.trans h) (by decide))] | (dsimp only; rw [if_neg (fun h => absurd (c_58.symm.trans h) (by decide))])); (first | rw [if_pos c_58] | (dsimp only; rw [if_pos c_58])); (first | rw [if_neg c_175] | (dsimp only; rw [if_neg c_175])); (first | rw [if_pos c_188] | (dsimp only; rw [if_pos c_188])); (first | done | rfl | (dsimp only; done)))
            · replace hD := hD.2 c_188
              refine ab_aload_n (pc := 191) dX8_takeTurn_191 rfl rfl ?_
              refine xo_gr (pc := 192) (a := (358 : Nat)) dX8_takeTurn_192 fl_X8_9 (by decide) rfl rfl ?_
              refine ab_aload (pc := 195) dX8_takeTurn_195 rfl ?_
              refine xo_gi (pc := 197) dX8_takeTurn_197 fl_X8_69 o52 rfl ?_
              obtain ⟨o72, hD⟩ := hD
              refine ab_nat1 (ab_nat o72) ?_
              obtain ⟨o73, hD⟩ := hD
              refine xo_ild (pc := 200) dX8_takeTurn_200 (by decide) rfl o73 (by decide) ?_
              refine ab_iload (pc := 201) dX8_takeTurn_201 rfl ?_
              refine ab_icmp_ne (pc := 203) (tgt := 225) dX8_takeTurn_203 (by decide) (fun c_203 => ?_) (fun c_203 => ?_)
              · replace hD := hD.2 c_203
                refine ab_aload_n (pc := 225) dX8_takeTurn_225 rfl rfl ?_
                refine ab_iconst (pc := 226) (v := nI 3) dX8_takeTurn_226 (by decide) ?_
                refine ab_iload (pc := 227) dX8_takeTurn_227 rfl ?_
                refine ab_bipush (pc := 229) (v := nI 50) dX8_takeTurn_229 (by decide) ?_
                refine ab_bipush (pc := 231) (v := -11) dX8_takeTurn_231 (by decide) ?_
                refine ab_iconst (pc := 233) (v := nI 0) dX8_takeTurn_233 (by decide) ?_
                obtain ⟨o74, hD⟩ := hD
                have e75 := c_X1_send (tt := tt) _ _ _ _ _ _ o74
                refine xo_invv (N := mX1_send) (pc := 234) (d' := 2) (av := [_, _, _, _, _]) dX8_takeTurn_234 ml_X8_88 fv_X1_send (by decide) (Nat.le_of_ble_eq_true rfl) (by decide) e75 ?_
                refine ab_goto (pc := 237) (tgt := 275) dX8_takeTurn_237 (by decide) ?_
                refine xo_vr (pc := 275) dX8_takeTurn_275 rfl ?_
                (rw [FX8_takeTurn]; (first | rw [if_neg c_12] | (dsimp only; rw [if_neg c_12])); (first | rw [ab_o_s c_24] | (dsimp only; rw [ab_o_s c_24])); (first | rw [if_neg c_42] | (dsimp only; rw [if_neg c_42])); (first | rw [if_neg (fun h => absurd (c_58.symm.trans h) (by decide))] | (dsimp only; rw [if_neg (fun h => absurd (c_58.symm.trans h) (by decide))])); (first | rw [if_neg (fun h => absurd (c_58.symm.trans h) (by decide))] | (dsimp only; rw [if_neg (fun h => absurd (c_58.symm.trans h) (by decide))])); (first | rw [if_neg (fun h => absurd (c_58.symm.trans h) (by decide))] | (dsimp only; rw [if_neg (fun h => absurd (c_58.symm.trans h) (by decide))])); (first | rw [if_pos c_58] | (dsimp only; rw [if_pos c_58])); (first | rw [if_neg c_175] | (dsimp only; rw [if_neg c_175])); (first | rw [if_neg c_188] | (dsimp only; rw [if_neg c_188])); (first | rw [if_neg c_203] | (dsimp only; rw [if_neg c_203])); (first | done | rfl | (dsimp only; done)))
              · replace hD := hD.1 c_203
                refine ab_aload_n (pc := 206) dX8_takeTurn_206 rfl rfl ?_
                refine ab_aload_n (pc := 207) dX8_takeTurn_207 rfl rfl ?_
                refine ab_aload_n (pc := 208) dX8_takeTurn_208 rfl rfl ?_
                refine ab_aload (pc := 209) dX8_takeTurn_209 rfl ?_
                refine xo_gi (pc := 211) dX8_takeTurn_211 fl_X8_69 o52 rfl ?_
                refine ab_sipush (pc := 214) (v := nI 255) dX8_takeTurn_214 (by decide) ?_
                refine ab_iload (pc := 217) dX8_takeTurn_217 rfl ?_
                obtain ⟨o77, hD⟩ := hD
                have e78 := c_X8_end (tt := tt) _ _ _ _ o77
                refine xo_invv (N := mX8_end) (pc := 219) (d' := 3) (av := [_, _, _, _, _]) dX8_takeTurn_219 ml_X8_78 fv_X8_end (by decide) (Nat.le_of_ble_eq_true rfl) (by decide) e78 ?_
                refine ab_goto (pc := 222) (tgt := 275) dX8_takeTurn_222 (by decide) ?_
                refine xo_vr (pc := 275) dX8_takeTurn_275 rfl ?_
                (rw [FX8_takeTurn]; (first | rw [if_neg c_12] | (dsimp only; rw [if_neg c_12])); (first | rw [ab_o_s c_24] | (dsimp only; rw [ab_o_s c_24])); (first | rw [if_neg c_42] | (dsimp only; rw [if_neg c_42])); (first | rw [if_neg (fun h => absurd (c_58.symm.trans h) (by decide))] | (dsimp only; rw [if_neg (fun h => absurd (c_58.symm.trans h) (by decide))])); (first | rw [if_neg (fun h => absurd (c_58.symm.trans h) (by decide))] | (dsimp only; rw [if_neg (fun h => absurd (c_58.symm.trans h) (by decide))])); (first | rw [if_neg (fun h => absurd (c_58.symm.trans h) (by decide))] | (dsimp only; rw [if_neg (fun h => absurd (c_58.symm.trans h) (by decide))])); (first | rw [if_pos c_58] | (dsimp only; rw [if_pos c_58])); (first | rw [if_neg c_175] | (dsimp only; rw [if_neg c_175])); (first | rw [if_neg c_188] | (dsimp only; rw [if_neg c_188])); (first | rw [if_pos c_203] | (dsimp only; rw [if_pos c_203])); (first | done | rfl | (dsimp only; done)))
        · replace hD := hD.2.2.2.2.1 c_58
          refine ab_aload_n (pc := 240) dX8_takeTurn_240 rfl rfl ?_
          refine ab_iconst (pc := 241) (v := nI 3) dX8_takeTurn_241 (by decide) ?_
          refine ab_iload (pc := 242) dX8_takeTurn_242 rfl ?_
          refine ab_bipush (pc := 244) (v := nI 50) dX8_takeTurn_244 (by decide) ?_
          refine ab_aload_n (pc := 246) dX8_takeTurn_246 rfl rfl ?_
          refine xo_gr (pc := 247) (a := (358 : Nat)) dX8_takeTurn_247 fl_X8_9 (by decide) rfl rfl ?_
          refine ab_iload (pc := 250) dX8_takeTurn_250 rfl ?_
          obtain ⟨o80, hD⟩ := hD
          refine ab_nat1 (ab_nat o80) ?_
          obtain ⟨o81, hD⟩ := hD
          refine xo_ild (pc := 252) dX8_takeTurn_252 (by decide) rfl o81 (by decide) ?_
          refine ab_iconst (pc := 253) (v := -1) dX8_takeTurn_253 (by decide) ?_
          refine ab_icmp_ne (pc := 254) (tgt := 261) dX8_takeTurn_254 (by decide) (fun c_254 => ?_) (fun c_254 => ?_)
          · replace hD := hD.2 c_254
            refine ab_aload_n (pc := 261) dX8_takeTurn_261 rfl rfl ?_
            refine xo_gr (pc := 262) (a := (358 : Nat)) dX8_takeTurn_262 fl_X8_9 (by decide) rfl rfl ?_
            refine ab_iload (pc := 265) dX8_takeTurn_265 rfl ?_
            obtain ⟨o82, hD⟩ := hD
            refine ab_nat1 (ab_nat o82) ?_
            obtain ⟨o83, hD⟩ := hD
            refine xo_ild (pc := 267) dX8_takeTurn_267 (by decide) rfl o83 (by decide) ?_
            refine ab_iconst (pc := 268) (v := nI 0) dX8_takeTurn_268 (by decide) ?_
            obtain ⟨o84, hD⟩ := hD
            have e85 := c_X1_send (tt := tt) _ _ _ _ _ _ o84
            refine xo_invv (N := mX1_send) (pc := 269) (d' := 2) (av := [_, _, _, _, _]) dX8_takeTurn_269 ml_X8_88 fv_X1_send (by decide) (Nat.le_of_ble_eq_true rfl) (by decide) e85 ?_
            refine ab_goto (pc := 272) (tgt := 275) dX8_takeTurn_272 (by decide) ?_
            refine xo_vr (pc := 275) dX8_takeTurn_275 rfl ?_
            (rw [FX8_takeTurn]; (first | rw [if_neg c_12] | (dsimp only; rw [if_neg c_12])); (first | rw [ab_o_s c_24] | (dsimp only; rw [ab_o_s c_24])); (first | rw [if_neg c_42] | (dsimp only; rw [if_neg c_42])); (first | rw [if_neg (fun h => absurd (c_58.symm.trans h) (by decide))] | (dsimp only; rw [if_neg (fun h => absurd (c_58.symm.trans h) (by decide))])); (first | rw [if_neg (fun h => absurd (c_58.symm.trans h) (by decide))] | (dsimp only; rw [if_neg (fun h => absurd (c_58.symm.trans h) (by decide))])); (first | rw [if_neg (fun h => absurd (c_58.symm.trans h) (by decide))] | (dsimp only; rw [if_neg (fun h => absurd (c_58.symm.trans h) (by decide))])); (first | rw [if_neg (fun h => absurd (c_58.symm.trans h) (by decide))] | (dsimp only; rw [if_neg (fun h => absurd (c_58.symm.trans h) (by decide))])); (first | rw [if_pos c_58] | (dsimp only; rw [if_pos c_58])); (first | rw [if_neg c_254] | (dsimp only; rw [if_neg c_254])); (first | done | rfl | (dsimp only; done)))
          · replace hD := hD.1 c_254
            refine ab_iconst (pc := 257) (v := nI 0) dX8_takeTurn_257 (by decide) ?_
            refine ab_goto (pc := 258) (tgt := 268) dX8_takeTurn_258 (by decide) ?_
            refine ab_iconst (pc := 268) (v := nI 0) dX8_takeTurn_268 (by decide) ?_
            obtain ⟨o87, hD⟩ := hD
            have e88 := c_X1_send (tt := tt) _ _ _ _ _ _ o87
            refine xo_invv (N := mX1_send) (pc := 269) (d' := 2) (av := [_, _, _, _, _]) dX8_takeTurn_269 ml_X8_88 fv_X1_send (by decide) (Nat.le_of_ble_eq_true rfl) (by decide) e88 ?_
            refine ab_goto (pc := 272) (tgt := 275) dX8_takeTurn_272 (by decide) ?_
            refine xo_vr (pc := 275) dX8_takeTurn_275 rfl ?_
            (rw [FX8_takeTurn]; (first | rw [if_neg c_12] | (dsimp only; rw [if_neg c_12])); (first | rw [ab_o_s c_24] | (dsimp only; rw [ab_o_s c_24])); (first | rw [if_neg c_42] | (dsimp only; rw [if_neg c_42])); (first | rw [if_neg (fun h => absurd (c_58.symm.trans h) (by decide))] | (dsimp only; rw [if_neg (fun h => absurd (c_58.symm.trans h) (by decide))])); (first | rw [if_neg (fun h => absurd (c_58.symm.trans h) (by decide))] | (dsimp only; rw [if_neg (fun h => absurd (c_58.symm.trans h) (by decide))])); (first | rw [if_neg (fun h => absurd (c_58.symm.trans h) (by decide))] | (dsimp only; rw [if_neg (fun h => absurd (c_58.symm.trans h) (by decide))])); (first | rw [if_neg (fun h => absurd (c_58.symm.trans h) (by decide))] | (dsimp only; rw [if_neg (fun h => absurd (c_58.symm.trans h) (by decide))])); (first | rw [if_pos c_58] | (dsimp only; rw [if_pos c_58])); (first | rw [if_pos c_254] | (dsimp only; rw [if_pos c_254])); (first | done | rfl | (dsimp only; done)))
        · replace hD := hD.2.2.2.2.2.1 c_58
          refine ab_aload_n (pc := 116) dX8_takeTurn_116 rfl rfl ?_
          refine ab_aload_n (pc := 117) dX8_takeTurn_117 rfl rfl ?_
          obtain ⟨o90, hD⟩ := hD
          have e91 := c_X8_goOn (tt := tt)  _ o90
          refine xo_invv (N := mX8_goOn) (pc := 118) (d' := 3) (av := [_]) dX8_takeTurn_118 ml_X8_61 fv_X8_goOn (by decide) (Nat.le_of_ble_eq_true rfl) (by decide) e91 ?_
          refine ab_goto (pc := 121) (tgt := 275) dX8_takeTurn_121 (by decide) ?_
          refine xo_vr (pc := 275) dX8_takeTurn_275 rfl ?_
          (rw [FX8_takeTurn]; (first | rw [if_neg c_12] | (dsimp only; rw [if_neg c_12])); (first | rw [ab_o_s c_24] | (dsimp only; rw [ab_o_s c_24])); (first | rw [if_neg c_42] | (dsimp only; rw [if_neg c_42])); (first | rw [if_neg (fun h => absurd (c_58.symm.trans h) (by decide))] | (dsimp only; rw [if_neg (fun h => absurd (c_58.symm.trans h) (by decide))])); (first | rw [if_neg (fun h => absurd (c_58.symm.trans h) (by decide))] | (dsimp only; rw [if_neg (fun h => absurd (c_58.symm.trans h) (by decide))])); (first | rw [if_neg (fun h => absurd (c_58.symm.trans h) (by decide))] | (dsimp only; rw [if_neg (fun h => absurd (c_58.symm.trans h) (by decide))])); (first | rw [if_neg (fun h => absurd (c_58.symm.trans h) (by decide))] | (dsimp only; rw [if_neg (fun h => absurd (c_58.symm.trans h) (by decide))])); (first | rw [if_neg (fun h => absurd (c_58.symm.trans h) (by decide))] | (dsimp only; rw [if_neg (fun h => absurd (c_58.symm.trans h) (by decide))])); (first | rw [if_pos c_58] | (dsimp only; rw [if_pos c_58])); (first | done | rfl | (dsimp only; done)))
        · refine xo_vr (pc := 275) dX8_takeTurn_275 rfl ?_
          (rw [FX8_takeTurn]; (first | rw [if_neg c_12] | (dsimp only; rw [if_neg c_12])); (first | rw [ab_o_s c_24] | (dsimp only; rw [ab_o_s c_24])); (first | rw [if_neg c_42] | (dsimp only; rw [if_neg c_42])); (first | rw [if_neg (c_58 _ (List.mem_of_getElem? (i := 0) rfl))] | (dsimp only; rw [if_neg (c_58 _ (List.mem_of_getElem? (i := 0) rfl))])); (first | rw [if_neg (c_58 _ (List.mem_of_getElem? (i := 1) rfl))] | (dsimp only; rw [if_neg (c_58 _ (List.mem_of_getElem? (i := 1) rfl))])); (first | rw [if_neg (c_58 _ (List.mem_of_getElem? (i := 2) rfl))] | (dsimp only; rw [if_neg (c_58 _ (List.mem_of_getElem? (i := 2) rfl))])); (first | rw [if_neg (c_58 _ (List.mem_of_getElem? (i := 3) rfl))] | (dsimp only; rw [if_neg (c_58 _ (List.mem_of_getElem? (i := 3) rfl))])); (first | rw [if_neg (c_58 _ (List.mem_of_getElem? (i := 4) rfl))] | (dsimp only; rw [if_neg (c_58 _ (List.mem_of_getElem? (i := 4) rfl))])); (first | rw [if_neg (c_58 _ (List.mem_of_getElem? (i := 5) rfl))] | (dsimp only; rw [if_neg (c_58 _ (List.mem_of_getElem? (i := 5) rfl))])); (first | done | rfl | (dsimp only; done)))
      · refine xo_vr (pc := 45) dX8_takeTurn_45 rfl ?_
        (rw [FX8_takeTurn]; (first | rw [if_neg c_12] | (dsimp only; rw [if_neg c_12])); (first | rw [ab_o_s c_24] | (dsimp only; rw [ab_o_s c_24])); (first | rw [if_pos c_42] | (dsimp only; rw [if_pos c_42])); (first | done | rfl | (dsimp only; done)))
