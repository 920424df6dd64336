def FX10_isUser (p : Int32) : Int32 :=
  if (p) < (nI (4)) then
    (nI (0))
  else
    if (nI (12)) ≤ (p) then
      (nI (0))
    else
      (nI (1))
set_option maxRecDepth 100000 in
set_option maxHeartbeats 4000000 in
theorem c_X10_isUser {tt : Prop} (p : Int32) (x : xD) (hD : True) : ab_Met mX10_isUser 0 0 0 tt [.int (p)] (sX x) (xQi (FX10_isUser p, x)) := by
  refine ab_Met.of rfl (Nat.le_of_ble_eq_true rfl) ?_
  show xV mX10_isUser 0 tt (xQi (FX10_isUser p, x)) 0 [some (.int (p))] [] x
  refine ab_iload_n (pc := 0) dX10_isUser_0 rfl rfl ?_
  refine ab_iconst (pc := 1) (v := nI 4) dX10_isUser_1 (by decide) ?_
  refine ab_icmp_lt (pc := 2) (tgt := 15) dX10_isUser_2 (by decide) (fun c_2 => ?_) (fun c_2 => ?_)
  · refine ab_iconst (pc := 15) (v := nI 0) dX10_isUser_15 (by decide) ?_
    refine xo_ir (pc := 16) dX10_isUser_16 rfl (ab_nb (Or.inl rfl)) ?_
    (rw [FX10_isUser]; (first | rw [if_pos c_2] | (dsimp only; rw [if_pos c_2])); (first | done | rfl | (dsimp only; done)))
  · refine ab_iload_n (pc := 5) dX10_isUser_5 rfl rfl ?_
    refine ab_bipush (pc := 6) (v := nI 12) dX10_isUser_6 (by decide) ?_
    refine ab_icmp_ge (pc := 8) (tgt := 15) dX10_isUser_8 (by decide) (fun c_8 => ?_) (fun c_8 => ?_)
    · refine ab_iconst (pc := 15) (v := nI 0) dX10_isUser_15 (by decide) ?_
      refine xo_ir (pc := 16) dX10_isUser_16 rfl (ab_nb (Or.inl rfl)) ?_
      (rw [FX10_isUser]; (first | rw [if_neg c_2] | (dsimp only; rw [if_neg c_2])); (first | rw [if_pos c_8] | (dsimp only; rw [if_pos c_8])); (first | done | rfl | (dsimp only; done)))
    · refine ab_iconst (pc := 11) (v := nI 1) dX10_isUser_11 (by decide) ?_
      refine ab_goto (pc := 12) (tgt := 16) dX10_isUser_12 (by decide) ?_
      refine xo_ir (pc := 16) dX10_isUser_16 rfl (ab_nb (Or.inr rfl)) ?_
      (rw [FX10_isUser]; (first | rw [if_neg c_2] | (dsimp only; rw [if_neg c_2])); (first | rw [if_neg c_8] | (dsimp only; rw [if_neg c_8])); (first | done | rfl | (dsimp only; done)))
def FX10_isPart (p : Int32) : Int32 :=
  if (p) < 0 then
    (nI (0))
  else
    if (nI (12)) ≤ (p) then
      (nI (0))
    else
      (nI (1))
set_option maxRecDepth 100000 in
set_option maxHeartbeats 4000000 in
theorem c_X10_isPart {tt : Prop} (p : Int32) (x : xD) (hD : True) : ab_Met mX10_isPart 0 0 0 tt [.int (p)] (sX x) (xQi (FX10_isPart p, x)) := by
  refine ab_Met.of rfl (Nat.le_of_ble_eq_true rfl) ?_
  show xV mX10_isPart 0 tt (xQi (FX10_isPart p, x)) 0 [some (.int (p))] [] x
  refine ab_iload_n (pc := 0) dX10_isPart_0 rfl rfl ?_
  refine ab_if_lt (pc := 1) (tgt := 14) dX10_isPart_1 (by decide) (fun c_1 => ?_) (fun c_1 => ?_)
  · refine ab_iconst (pc := 14) (v := nI 0) dX10_isPart_14 (by decide) ?_
    refine xo_ir (pc := 15) dX10_isPart_15 rfl (ab_nb (Or.inl rfl)) ?_
    (rw [FX10_isPart]; (first | rw [if_pos c_1] | (dsimp only; rw [if_pos c_1])); (first | done | rfl | (dsimp only; done)))
  · refine ab_iload_n (pc := 4) dX10_isPart_4 rfl rfl ?_
    refine ab_bipush (pc := 5) (v := nI 12) dX10_isPart_5 (by decide) ?_
    refine ab_icmp_ge (pc := 7) (tgt := 14) dX10_isPart_7 (by decide) (fun c_7 => ?_) (fun c_7 => ?_)
    · refine ab_iconst (pc := 14) (v := nI 0) dX10_isPart_14 (by decide) ?_
      refine xo_ir (pc := 15) dX10_isPart_15 rfl (ab_nb (Or.inl rfl)) ?_
      (rw [FX10_isPart]; (first | rw [if_neg c_1] | (dsimp only; rw [if_neg c_1])); (first | rw [if_pos c_7] | (dsimp only; rw [if_pos c_7])); (first | done | rfl | (dsimp only; done)))
    · refine ab_iconst (pc := 10) (v := nI 1) dX10_isPart_10 (by decide) ?_
      refine ab_goto (pc := 11) (tgt := 15) dX10_isPart_11 (by decide) ?_
      refine xo_ir (pc := 15) dX10_isPart_15 rfl (ab_nb (Or.inr rfl)) ?_
      (rw [FX10_isPart]; (first | rw [if_neg c_1] | (dsimp only; rw [if_neg c_1])); (first | rw [if_neg c_7] | (dsimp only; rw [if_neg c_7])); (first | done | rfl | (dsimp only; done)))
def FXJ9_floorMod_7cf53 (a : Int32) (b : Int32) : Int32 :=
  if 0 ≤ ((a) ^^^ (b)) then
    ((a) - (a) / (b) * (b))
  else
    if ((a) - (a) / (b) * (b)) = 0 then
      ((a) - (a) / (b) * (b))
    else
      (((a) - (a) / (b) * (b)) + (b))
def DXJ9_floorMod_7cf53 (a : Int32) (b : Int32) (x : xD) : Prop :=
  (¬ (b) = 0) ∧
  True
set_option maxRecDepth 100000 in
set_option maxHeartbeats 4000000 in
theorem c_XJ9_floorMod_7cf53 {tt : Prop} (a : Int32) (b : Int32) (x : xD) (hD : DXJ9_floorMod_7cf53 a b x) : ab_Met mJ9_floorMod_7cf53 0 0 0 tt [.int (a), .int (b)] (sX x) (xQi (FXJ9_floorMod_7cf53 a b, x)) := by
  refine ab_Met.ofF (by decide +kernel) (Nat.le_of_ble_eq_true rfl) ?_
  show xV mJ9_floorMod_7cf53 0 tt (xQi (FXJ9_floorMod_7cf53 a b, x)) 0 [some (.int (a)), some (.int (b)), none] [] x
  refine ab_iload_n (pc := 0) dJ9_floorMod_7cf53_0 rfl rfl ?_
  refine ab_iload_n (pc := 1) dJ9_floorMod_7cf53_1 rfl rfl ?_
  obtain ⟨o1, hD⟩ := hD
  refine ab_irem (pc := 2) dJ9_floorMod_7cf53_2 o1 ?_
  refine ab_istore_n (pc := 3) dJ9_floorMod_7cf53_3 rfl (Nat.le_of_ble_eq_true rfl) rfl ?_
  refine ab_iload_n (pc := 4) dJ9_floorMod_7cf53_4 rfl rfl ?_
  refine ab_iload_n (pc := 5) dJ9_floorMod_7cf53_5 rfl rfl ?_
  refine ab_ixor (pc := 6) dJ9_floorMod_7cf53_6 ?_
  refine ab_if_ge (pc := 7) (tgt := 18) dJ9_floorMod_7cf53_7 (by decide) (fun c_7 => ?_) (fun c_7 => ?_)
  · refine ab_iload_n (pc := 18) dJ9_floorMod_7cf53_18 rfl rfl ?_
    refine xo_ir (pc := 19) dJ9_floorMod_7cf53_19 rfl rfl ?_
    (rw [FXJ9_floorMod_7cf53]; (first | rw [if_pos c_7] | (dsimp only; rw [if_pos c_7])); (first | done | rfl | (dsimp only; done)))
  · refine ab_iload_n (pc := 10) dJ9_floorMod_7cf53_10 rfl rfl ?_
    refine ab_if_eq (pc := 11) (tgt := 18) dJ9_floorMod_7cf53_11 (by decide) (fun c_11 => ?_) (fun c_11 => ?_)
    · refine ab_iload_n (pc := 18) dJ9_floorMod_7cf53_18 rfl rfl ?_
      refine xo_ir (pc := 19) dJ9_floorMod_7cf53_19 rfl rfl ?_
      (rw [FXJ9_floorMod_7cf53]; (first | rw [if_neg c_7] | (dsimp only; rw [if_neg c_7])); (first | rw [if_pos c_11] | (dsimp only; rw [if_pos c_11])); (first | done | rfl | (dsimp only; done)))
    · refine ab_iload_n (pc := 14) dJ9_floorMod_7cf53_14 rfl rfl ?_
      refine ab_iload_n (pc := 15) dJ9_floorMod_7cf53_15 rfl rfl ?_
      refine ab_iadd (pc := 16) dJ9_floorMod_7cf53_16 ?_
      refine xo_ir (pc := 17) dJ9_floorMod_7cf53_17 rfl rfl ?_
      (rw [FXJ9_floorMod_7cf53]; (first | rw [if_neg c_7] | (dsimp only; rw [if_neg c_7])); (first | rw [if_neg c_11] | (dsimp only; rw [if_neg c_11])); (first | done | rfl | (dsimp only; done)))
def FX6_write (s : Nat) (f : Int32) (k : Int32) (a : Int32) (b : Int32) (x : xD) : xD :=
  let x2 : xD := (ab_up x.1 s 1 (f), x.2)
  let x3 : xD := (ab_up x2.1 s 2 (k), x2.2)
  let x4 : xD := (ab_up x3.1 s 3 (a), x3.2)
  let x5 : xD := (ab_up x4.1 s 4 (b), x4.2)
  let x6 : xD := (ab_up x5.1 s 5 (nI (0)), x5.2)
  let x7 : xD := (ab_up x6.1 s 6 (nI (0)), x6.2)
  let x8 : xD := (ab_up x7.1 s 7 (-1), x7.2)
  x8
def DX6_write (s : Nat) (f : Int32) (k : Int32) (a : Int32) (b : Int32) (x : xD) : Prop :=
  (isX s 6) ∧
  let x2 : xD := (ab_up x.1 s 1 (f), x.2)
  let x3 : xD := (ab_up x2.1 s 2 (k), x2.2)
  let x4 : xD := (ab_up x3.1 s 3 (a), x3.2)
  let x5 : xD := (ab_up x4.1 s 4 (b), x4.2)
  let x6 : xD := (ab_up x5.1 s 5 (nI (0)), x5.2)
  let x7 : xD := (ab_up x6.1 s 6 (nI (0)), x6.2)
  let x8 : xD := (ab_up x7.1 s 7 (-1), x7.2)
  True
set_option maxRecDepth 100000 in
set_option maxHeartbeats 4000000 in
theorem c_X6_write {tt : Prop} (s : Nat) (f : Int32) (k : Int32) (a : Int32) (b : Int32) (x : xD) (hD : DX6_write s f k a b x) : ab_Met mX6_write 0 0 0 tt [.ref (s : Nat), .int (f), .int (k), .int (a), .int (b)] (sX x) (xQv (FX6_write s f k a b x)) := by
  refine ab_Met.of rfl (Nat.le_of_ble_eq_true rfl) ?_
  show xV mX6_write 0 tt (xQv (FX6_write s f k a b x)) 0 [some (.ref (s : Nat)), some (.int (f)), some (.int (k)), some (.int (a)), some (.int (b))] [] x
  refine ab_aload_n (pc := 0) dX6_write_0 rfl rfl ?_
  refine ab_iload_n (pc := 1) dX6_write_1 rfl rfl ?_
  obtain ⟨o1, hD⟩ := hD
  refine xo_pi (pc := 2) dX6_write_2 fl_X6_22 o1 rfl (fun _ _ _ h => Or.inl (by cases h; rfl)) (ab_ok_i _) ?_
  refine ab_aload_n (pc := 5) dX6_write_5 rfl rfl ?_
  refine ab_iload_n (pc := 6) dX6_write_6 rfl rfl ?_
  refine xo_pi (pc := 7) dX6_write_7 fl_X6_25 o1 rfl (fun _ _ _ h => Or.inl (by cases h; rfl)) (ab_ok_i _) ?_
  refine ab_aload_n (pc := 10) dX6_write_10 rfl rfl ?_
  refine ab_iload_n (pc := 11) dX6_write_11 rfl rfl ?_
  refine xo_pi (pc := 12) dX6_write_12 fl_X6_28 o1 rfl (fun _ _ _ h => Or.inl (by cases h; rfl)) (ab_ok_i _) ?_
  refine ab_aload_n (pc := 15) dX6_write_15 rfl rfl ?_
  refine ab_iload (pc := 16) dX6_write_16 rfl ?_
  refine xo_pi (pc := 18) dX6_write_18 fl_X6_31 o1 rfl (fun _ _ _ h => Or.inl (by cases h; rfl)) (ab_ok_i _) ?_
  refine ab_aload_n (pc := 21) dX6_write_21 rfl rfl ?_
  refine ab_iconst (pc := 22) (v := nI 0) dX6_write_22 (by decide) ?_
  refine xo_pi (pc := 23) dX6_write_23 fl_X6_34 o1 rfl (fun _ _ _ h => Or.inl (by cases h; rfl)) (ab_ok_i _) ?_
  refine ab_aload_n (pc := 26) dX6_write_26 rfl rfl ?_
  refine ab_iconst (pc := 27) (v := nI 0) dX6_write_27 (by decide) ?_
  refine xo_pi (pc := 28) dX6_write_28 fl_X6_15 o1 rfl (fun _ _ _ h => Or.inl (by cases h; rfl)) (ab_ok_i _) ?_
  refine ab_aload_n (pc := 31) dX6_write_31 rfl rfl ?_
  refine ab_iconst (pc := 32) (v := -1) dX6_write_32 (by decide) ?_
  refine xo_pi (pc := 33) dX6_write_33 fl_X6_19 o1 rfl (fun _ _ _ h => Or.inl (by cases h; rfl)) (ab_ok_i _) ?_
  refine xo_vr (pc := 36) dX6_write_36 rfl ?_
  first | rfl | (rw [FX6_write]; done) | (rw [FX6_write]; rfl)
def FX6_setNumbers_2 : Nat → Nat → Nat → Int32 → Nat → xD → xD
  | 0, _, _, _, _, x => x
  | n + 1, s, q, g, a3, x =>
    if 8 ≤ a3 then
      x
    else
      if ((g) + (nI (a3))) < 0 then
        let x4 : xD := (ab_up x.1 (s + 1) a3 (nI (0)), x.2)
        FX6_setNumbers_2 n s q g (a3 + 1) x4
      else
        if (nI ((shX q).2)) ≤ ((g) + (nI (a3))) then
          let x7 : xD := (ab_up x.1 (s + 1) a3 (nI (0)), x.2)
          FX6_setNumbers_2 n s q g (a3 + 1) x7
        else
          let x12 : xD := (ab_up x.1 (s + 1) a3 (x.1 q (((g) + (nI (a3))).toNatClampNeg)), x.2)
          FX6_setNumbers_2 n s q g (a3 + 1) x12
def DX6_setNumbers_2 : Nat → Nat → Nat → Int32 → Nat → xD → Prop
  | 0, _, _, _, _, _ => False
  | n + 1, s, q, g, a3, x =>
    (a3 < 2147483648) ∧
    ((8 ≤ a3) →
      True) ∧
    (¬ (8 ≤ a3) →
      (isX s 6) ∧
      ((((g) + (nI (a3))) < 0) →
        (a3 < 8) ∧
        let x4 : xD := (ab_up x.1 (s + 1) a3 (nI (0)), x.2)
        DX6_setNumbers_2 n s q g (a3 + 1) x4) ∧
      (¬ (((g) + (nI (a3))) < 0) →
        (isX q 100) ∧
        (((nI ((shX q).2)) ≤ ((g) + (nI (a3)))) →
          (a3 < 8) ∧
          let x7 : xD := (ab_up x.1 (s + 1) a3 (nI (0)), x.2)
          DX6_setNumbers_2 n s q g (a3 + 1) x7) ∧
        (¬ ((nI ((shX q).2)) ≤ ((g) + (nI (a3)))) →
          (¬ ((g) + (nI (a3))) < 0) ∧
          ((((g) + (nI (a3))).toNatClampNeg) < (shX q).2) ∧
          ((shX q).2 < 2147483648) ∧
          (a3 < 8) ∧
          let x12 : xD := (ab_up x.1 (s + 1) a3 (x.1 q (((g) + (nI (a3))).toNatClampNeg)), x.2)
          DX6_setNumbers_2 n s q g (a3 + 1) x12)))
set_option maxRecDepth 100000 in
set_option maxHeartbeats 4000000 in
theorem w_X6_setNumbers_2 {tt : Prop} : ∀ (n : Nat) (s : Nat) (q : Nat) (g : Int32) (a3 : Nat) (x : xD) (hD : DX6_setNumbers_2 n s q g a3 x), xV mX6_setNumbers 0 tt (xQv (FX6_setNumbers_2 n s q g a3 x)) 2 [some (.ref (s : Nat)), some (.ref (q : Nat)), some (.int (g)), some (.int (nI (a3))), none] [] x := by
  intro n
  induction n with
  | zero => intros; rename_i hD; exact hD.elim
  | succ n ih =>
    intro s q g a3 x hD
    refine ab_iload_n (pc := 2) dX6_setNumbers_2 rfl rfl ?_
    refine ab_bipush (pc := 3) (v := nI 8) dX6_setNumbers_3 (by decide) ?_
    obtain ⟨o1, hD⟩ := hD
    refine ab_icmp_geN (pc := 5) (tgt := 45) dX6_setNumbers_5 (by decide) o1 (by decide) (fun c_5 => ?_) (fun c_5 => ?_)
    · refine xo_vr (pc := 45) dX6_setNumbers_45 rfl ?_
      (rw [FX6_setNumbers_2]; (first | rw [if_pos c_5] | (dsimp only; rw [if_pos c_5])); (first | done | rfl | (dsimp only; done)))
    · replace hD := hD.2 c_5
      refine ab_iload_n (pc := 8) dX6_setNumbers_8 rfl rfl ?_
      refine ab_iload_n (pc := 9) dX6_setNumbers_9 rfl rfl ?_
      refine ab_iadd (pc := 10) dX6_setNumbers_10 ?_
      refine ab_istore (pc := 11) dX6_setNumbers_11 (Nat.le_of_ble_eq_true rfl) rfl ?_
      refine ab_aload_n (pc := 13) dX6_setNumbers_13 rfl rfl ?_
      obtain ⟨o2, hD⟩ := hD
      refine xo_gr (pc := 14) dX6_setNumbers_14 fl_X6_9 o2 rfl (crX_num o2) ?_
      refine ab_iload_n (pc := 17) dX6_setNumbers_17 rfl rfl ?_
      refine ab_iload (pc := 18) dX6_setNumbers_18 rfl ?_
      refine ab_if_lt (pc := 20) (tgt := 37) dX6_setNumbers_20 (by decide) (fun c_20 => ?_) (fun c_20 => ?_)
      · replace hD := hD.1 c_20
        refine ab_iconst (pc := 37) (v := nI 0) dX6_setNumbers_37 (by decide) ?_
        obtain ⟨o3, hD⟩ := hD
        refine xo_ist (pc := 38) dX6_setNumbers_38 (isX_num o2) (shX_num o2) o3 (by decide) ?_
        refine ab_iinc (pc := 39) dX6_setNumbers_39 rfl (ab_inc _) (Nat.le_of_ble_eq_true rfl) rfl ?_
        refine ab_goto (pc := 42) (tgt := 2) dX6_setNumbers_42 (by decide) ?_
        refine ab_wk (ls2 := [some _, some _, some _, some _, none]) (And.intro rfl (And.intro rfl (And.intro rfl (And.intro rfl trivial)))) ?_
        refine xo_eqv ?_ (ih _ _ _ _ _ hD)
        (rw [FX6_setNumbers_2]; (first | rw [if_neg c_5] | (dsimp only; rw [if_neg c_5])); (first | rw [if_pos c_20] | (dsimp only; rw [if_pos c_20])); (first | done | rfl | (dsimp only; done)))
      · replace hD := hD.2 c_20
        refine ab_iload (pc := 23) dX6_setNumbers_23 rfl ?_
        refine ab_aload_n (pc := 25) dX6_setNumbers_25 rfl rfl ?_
        obtain ⟨o5, hD⟩ := hD
        refine xo_aln (pc := 26) dX6_setNumbers_26 o5 ?_
        refine ab_nat1 (n := (shX q).2) rfl ?_
        refine ab_icmp_ge (pc := 27) (tgt := 37) dX6_setNumbers_27 (by decide) (fun c_27 => ?_) (fun c_27 => ?_)
        · replace hD := hD.1 c_27
          refine ab_iconst (pc := 37) (v := nI 0) dX6_setNumbers_37 (by decide) ?_
          obtain ⟨o6, hD⟩ := hD
          refine xo_ist (pc := 38) dX6_setNumbers_38 (isX_num o2) (shX_num o2) o6 (by decide) ?_
          refine ab_iinc (pc := 39) dX6_setNumbers_39 rfl (ab_inc _) (Nat.le_of_ble_eq_true rfl) rfl ?_
          refine ab_goto (pc := 42) (tgt := 2) dX6_setNumbers_42 (by decide) ?_
          refine ab_wk (ls2 := [some _, some _, some _, some _, none]) (And.intro rfl (And.intro rfl (And.intro rfl (And.intro rfl trivial)))) ?_
          refine xo_eqv ?_ (ih _ _ _ _ _ hD)
          (rw [FX6_setNumbers_2]; (first | rw [if_neg c_5] | (dsimp only; rw [if_neg c_5])); (first | rw [if_neg c_20] | (dsimp only; rw [if_neg c_20])); (first | rw [if_pos c_27] | (dsimp only; rw [if_pos c_27])); (first | done | rfl | (dsimp only; done)))
        · replace hD := hD.2 c_27
          refine ab_aload_n (pc := 30) dX6_setNumbers_30 rfl rfl ?_
          refine ab_iload (pc := 31) dX6_setNumbers_31 rfl ?_
          obtain ⟨o8, hD⟩ := hD
          refine ab_nat1 (ab_nat o8) ?_
          obtain ⟨o9, hD⟩ := hD
          obtain ⟨o10, hD⟩ := hD
          refine xo_ild (pc := 33) dX6_setNumbers_33 o5 rfl o9 o10 ?_
          refine ab_goto (pc := 34) (tgt := 38) dX6_setNumbers_34 (by decide) ?_
          obtain ⟨o11, hD⟩ := hD
          refine xo_ist (pc := 38) dX6_setNumbers_38 (isX_num o2) (shX_num o2) o11 (by decide) ?_
          refine ab_iinc (pc := 39) dX6_setNumbers_39 rfl (ab_inc _) (Nat.le_of_ble_eq_true rfl) rfl ?_
          refine ab_goto (pc := 42) (tgt := 2) dX6_setNumbers_42 (by decide) ?_
          refine ab_wk (ls2 := [some _, some _, some _, some _, none]) (And.intro rfl (And.intro rfl (And.intro rfl (And.intro rfl trivial)))) ?_
          refine xo_eqv ?_ (ih _ _ _ _ _ hD)
          (rw [FX6_setNumbers_2]; (first | rw [if_neg c_5] | (dsimp only; rw [if_neg c_5])); (first | rw [if_neg c_20] | (dsimp only; rw [if_neg c_20])); (first | rw [if_neg c_27] | (dsimp only; rw [if_neg c_27])); (first | done | rfl | (dsimp only; done)))
def FX6_setNumbers (s : Nat) (q : Nat) (g : Int32) (x : xD) : xD :=
  FX6_setNumbers_2 9 s q g 0 x
def DX6_setNumbers (s : Nat) (q : Nat) (g : Int32) (x : xD) : Prop :=
  DX6_setNumbers_2 9 s q g 0 x
set_option maxRecDepth 100000 in
set_option maxHeartbeats 4000000 in
theorem c_X6_setNumbers {tt : Prop} (s : Nat) (q : Nat) (g : Int32) (x : xD) (hD : DX6_setNumbers s q g x) : ab_Met mX6_setNumbers 0 0 0 tt [.ref (s : Nat), .ref (q : Nat), .int (g)] (sX x) (xQv (FX6_setNumbers s q g x)) := by
  refine ab_Met.of rfl (Nat.le_of_ble_eq_true rfl) ?_
  show xV mX6_setNumbers 0 tt (xQv (FX6_setNumbers s q g x)) 0 [some (.ref (s : Nat)), some (.ref (q : Nat)), some (.int (g)), none, none] [] x
  refine ab_iconst (pc := 0) (v := nI 0) dX6_setNumbers_0 (by decide) ?_
  refine ab_istore_n (pc := 1) dX6_setNumbers_1 rfl (Nat.le_of_ble_eq_true rfl) rfl ?_
  refine ab_wk (ls2 := [some _, some _, some _, some _, none]) (And.intro rfl (And.intro rfl (And.intro rfl (And.intro rfl trivial)))) ?_
  refine xo_eqv ?_ (w_X6_setNumbers_2 9 _ _ _ _ _ hD)
  first | rfl | (rw [FX6_setNumbers]; done) | (rw [FX6_setNumbers]; rfl)
def FX6_copy_60 : Nat → Nat → Nat → Nat → xD → xD
  | 0, _, _, _, x => x
  | n + 1, s, q, a2, x =>
    if 8 ≤ a2 then
      x
    else
      let x13 : xD := (ab_up x.1 (s + 1) a2 (x.1 (q + 1) a2), x.2)
      FX6_copy_60 n s q (a2 + 1) x13
def DX6_copy_60 : Nat → Nat → Nat → Nat → xD → Prop
  | 0, _, _, _, _ => False
  | n + 1, s, q, a2, x =>
    (a2 < 2147483648) ∧
    ((8 ≤ a2) →
      True) ∧
    (¬ (8 ≤ a2) →
      (isX s 6) ∧
      (isX q 6) ∧
      (a2 < 8) ∧
      (a2 < 8) ∧
      let x13 : xD := (ab_up x.1 (s + 1) a2 (x.1 (q + 1) a2), x.2)
      DX6_copy_60 n s q (a2 + 1) x13)
set_option maxRecDepth 100000 in
set_option maxHeartbeats 4000000 in
theorem w_X6_copy_60 {tt : Prop} : ∀ (n : Nat) (s : Nat) (q : Nat) (a2 : Nat) (x : xD) (hD : DX6_copy_60 n s q a2 x), xV mX6_copy 0 tt (xQv (FX6_copy_60 n s q a2 x)) 60 [some (.ref (s : Nat)), some (.ref (q : Nat)), some (.int (nI (a2)))] [] x := by
  intro n
  induction n with
  | zero => intros; rename_i hD; exact hD.elim
  | succ n ih =>
    intro s q a2 x hD
    refine ab_iload_n (pc := 60) dX6_copy_60 rfl rfl ?_
    refine ab_bipush (pc := 61) (v := nI 8) dX6_copy_61 (by decide) ?_
    obtain ⟨o8, hD⟩ := hD
    refine ab_icmp_geN (pc := 63) (tgt := 84) dX6_copy_63 (by decide) o8 (by decide) (fun c_63 => ?_) (fun c_63 => ?_)
    · refine xo_vr (pc := 84) dX6_copy_84 rfl ?_
      (rw [FX6_copy_60]; (first | rw [if_pos c_63] | (dsimp only; rw [if_pos c_63])); (first | done | rfl | (dsimp only; done)))
    · replace hD := hD.2 c_63
      refine ab_aload_n (pc := 66) dX6_copy_66 rfl rfl ?_
      obtain ⟨o9, hD⟩ := hD
      refine xo_gr (pc := 67) dX6_copy_67 fl_X6_9 o9 rfl (crX_num o9) ?_
      refine ab_iload_n (pc := 70) dX6_copy_70 rfl rfl ?_
      refine ab_aload_n (pc := 71) dX6_copy_71 rfl rfl ?_
      obtain ⟨o10, hD⟩ := hD
      refine xo_gr (pc := 72) dX6_copy_72 fl_X6_9 o10 rfl (crX_num o10) ?_
      refine ab_iload_n (pc := 75) dX6_copy_75 rfl rfl ?_
      obtain ⟨o11, hD⟩ := hD
      refine xo_ild (pc := 76) dX6_copy_76 (isX_num o10) (shX_num o10) o11 (by decide) ?_
      obtain ⟨o12, hD⟩ := hD
      refine xo_ist (pc := 77) dX6_copy_77 (isX_num o9) (shX_num o9) o12 (by decide) ?_
      refine ab_iinc (pc := 78) dX6_copy_78 rfl (ab_inc _) (Nat.le_of_ble_eq_true rfl) rfl ?_
      refine ab_goto (pc := 81) (tgt := 60) dX6_copy_81 (by decide) ?_
      refine xo_eqv ?_ (ih _ _ _ _ hD)
      (rw [FX6_copy_60]; (first | rw [if_neg c_63] | (dsimp only; rw [if_neg c_63])); (first | done | rfl | (dsimp only; done)))
def FX6_copy (s : Nat) (q : Nat) (x : xD) : xD :=
  let x3 : xD := (ab_up x.1 s 1 (x.1 q 1), x.2)
  let x4 : xD := (ab_up x3.1 s 2 (x3.1 q 2), x3.2)
  let x5 : xD := (ab_up x4.1 s 3 (x4.1 q 3), x4.2)
  let x6 : xD := (ab_up x5.1 s 4 (x5.1 q 4), x5.2)
  let x7 : xD := (ab_up x6.1 s 5 (x6.1 q 5), x6.2)
  if (x7.1 s 2) = (nI (21)) then
    FX6_copy_60 9 s q 0 x7
  else
    if (x7.1 s 2) = (nI (22)) then
      FX6_copy_60 9 s q 0 x7
    else
      x7
def DX6_copy (s : Nat) (q : Nat) (x : xD) : Prop :=
  (isX q 6) ∧
  (isX s 6) ∧
  let x3 : xD := (ab_up x.1 s 1 (x.1 q 1), x.2)
  let x4 : xD := (ab_up x3.1 s 2 (x3.1 q 2), x3.2)
  let x5 : xD := (ab_up x4.1 s 3 (x4.1 q 3), x4.2)
  let x6 : xD := (ab_up x5.1 s 4 (x5.1 q 4), x5.2)
  let x7 : xD := (ab_up x6.1 s 5 (x6.1 q 5), x6.2)
  (((x7.1 s 2) = (nI (21))) →
    DX6_copy_60 9 s q 0 x7) ∧
  (¬ ((x7.1 s 2) = (nI (21))) →
    (((x7.1 s 2) = (nI (22))) →
      DX6_copy_60 9 s q 0 x7) ∧
    (¬ ((x7.1 s 2) = (nI (22))) →
      True))
set_option maxRecDepth 100000 in
set_option maxHeartbeats 4000000 in
theorem c_X6_copy {tt : Prop} (s : Nat) (q : Nat) (x : xD) (hD : DX6_copy s q x) : ab_Met mX6_copy 0 0 0 tt [.ref (s : Nat), .ref (q : Nat)] (sX x) (xQv (FX6_copy s q x)) := by
  refine ab_Met.of rfl (Nat.le_of_ble_eq_true rfl) ?_
  show xV mX6_copy 0 tt (xQv (FX6_copy s q x)) 0 [some (.ref (s : Nat)), some (.ref (q : Nat)), none] [] x
  refine ab_aload_n (pc := 0) dX6_copy_0 rfl rfl ?_
  refine ab_aload_n (pc := 1) dX6_copy_1 rfl rfl ?_
  obtain ⟨o1, hD⟩ := hD
  refine xo_gi (pc := 2) dX6_copy_2 fl_X6_22 o1 rfl ?_
  obtain ⟨o2, hD⟩ := hD
  refine xo_pi (pc := 5) dX6_copy_5 fl_X6_22 o2 rfl (fun _ _ _ h => Or.inl (by cases h; rfl)) (ab_ok_i _) ?_
  refine ab_aload_n (pc := 8) dX6_copy_8 rfl rfl ?_
  refine ab_aload_n (pc := 9) dX6_copy_9 rfl rfl ?_
  refine xo_gi (pc := 10) dX6_copy_10 fl_X6_25 o1 rfl ?_
  refine xo_pi (pc := 13) dX6_copy_13 fl_X6_25 o2 rfl (fun _ _ _ h => Or.inl (by cases h; rfl)) (ab_ok_i _) ?_
  refine ab_aload_n (pc := 16) dX6_copy_16 rfl rfl ?_
  refine ab_aload_n (pc := 17) dX6_copy_17 rfl rfl ?_
  refine xo_gi (pc := 18) dX6_copy_18 fl_X6_28 o1 rfl ?_
  refine xo_pi (pc := 21) dX6_copy_21 fl_X6_28 o2 rfl (fun _ _ _ h => Or.inl (by cases h; rfl)) (ab_ok_i _) ?_
  refine ab_aload_n (pc := 24) dX6_copy_24 rfl rfl ?_
  refine ab_aload_n (pc := 25) dX6_copy_25 rfl rfl ?_
  refine xo_gi (pc := 26) dX6_copy_26 fl_X6_31 o1 rfl ?_
  refine xo_pi (pc := 29) dX6_copy_29 fl_X6_31 o2 rfl (fun _ _ _ h => Or.inl (by cases h; rfl)) (ab_ok_i _) ?_
  refine ab_aload_n (pc := 32) dX6_copy_32 rfl rfl ?_
  refine ab_aload_n (pc := 33) dX6_copy_33 rfl rfl ?_
  refine xo_gi (pc := 34) dX6_copy_34 fl_X6_34 o1 rfl ?_
  refine xo_pi (pc := 37) dX6_copy_37 fl_X6_34 o2 rfl (fun _ _ _ h => Or.inl (by cases h; rfl)) (ab_ok_i _) ?_
  refine ab_aload_n (pc := 40) dX6_copy_40 rfl rfl ?_
  refine xo_gi (pc := 41) dX6_copy_41 fl_X6_25 o2 rfl ?_
  refine ab_bipush (pc := 44) (v := nI 21) dX6_copy_44 (by decide) ?_
  refine ab_icmp_eq (pc := 46) (tgt := 58) dX6_copy_46 (by decide) (fun c_46 => ?_) (fun c_46 => ?_)
  · replace hD := hD.1 c_46
    refine ab_iconst (pc := 58) (v := nI 0) dX6_copy_58 (by decide) ?_
    refine ab_istore_n (pc := 59) dX6_copy_59 rfl (Nat.le_of_ble_eq_true rfl) rfl ?_
    refine xo_eqv ?_ (w_X6_copy_60 9 _ _ _ _ hD)
    (rw [FX6_copy]; (first | rw [if_pos c_46] | (dsimp only; rw [if_pos c_46])); (first | done | rfl | (dsimp only; done)))
  · replace hD := hD.2 c_46
    refine ab_aload_n (pc := 49) dX6_copy_49 rfl rfl ?_
    refine xo_gi (pc := 50) dX6_copy_50 fl_X6_25 o2 rfl ?_
    refine ab_bipush (pc := 53) (v := nI 22) dX6_copy_53 (by decide) ?_
    refine ab_icmp_ne (pc := 55) (tgt := 84) dX6_copy_55 (by decide) (fun c_55 => ?_) (fun c_55 => ?_)
    · refine xo_vr (pc := 84) dX6_copy_84 rfl ?_
      (rw [FX6_copy]; (first | rw [if_neg c_46] | (dsimp only; rw [if_neg c_46])); (first | rw [if_neg c_55] | (dsimp only; rw [if_neg c_55])); (first | done | rfl | (dsimp only; done)))
    · replace hD := hD.1 c_55
      refine ab_iconst (pc := 58) (v := nI 0) dX6_copy_58 (by decide) ?_
      refine ab_istore_n (pc := 59) dX6_copy_59 rfl (Nat.le_of_ble_eq_true rfl) rfl ?_
      refine xo_eqv ?_ (w_X6_copy_60 9 _ _ _ _ hD)
      (rw [FX6_copy]; (first | rw [if_neg c_46] | (dsimp only; rw [if_neg c_46])); (first | rw [if_pos c_55] | (dsimp only; rw [if_pos c_55])); (first | done | rfl | (dsimp only; done)))
def FX0_look (s : Nat) (i : Int32) (x : xD) : Option Nat × xD :=
  if (i) < 0 then
    (none, x)
  else
    if (x.1 s 1) ≤ (i) then
      (none, x)
    else
      (some (x.2 (s + 1) ((i).toNatClampNeg)), x)
def DX0_look (s : Nat) (i : Int32) (x : xD) : Prop :=
  (((i) < 0) →
    True) ∧
  (¬ ((i) < 0) →
    (isX s 0) ∧
    (((x.1 s 1) ≤ (i)) →
      True) ∧
    (¬ ((x.1 s 1) ≤ (i)) →
      (¬ (i) < 0) ∧
      (((i).toNatClampNeg) < 12) ∧
      (isX (x.2 (s + 1) ((i).toNatClampNeg)) 6) ∧
      True))
set_option maxRecDepth 100000 in
set_option maxHeartbeats 4000000 in
theorem c_X0_look {tt : Prop} (s : Nat) (i : Int32) (x : xD) (hD : DX0_look s i x) : ab_Met mX0_look 0 0 0 tt [.ref (s : Nat), .int (i)] (sX x) (xQo (FX0_look s i x)) := by
  refine ab_Met.of rfl (Nat.le_of_ble_eq_true rfl) ?_
  show xV mX0_look 0 tt (xQo (FX0_look s i x)) 0 [some (.ref (s : Nat)), some (.int (i))] [] x
  refine ab_iload_n (pc := 0) dX0_look_0 rfl rfl ?_
  refine ab_if_lt (pc := 1) (tgt := 21) dX0_look_1 (by decide) (fun c_1 => ?_) (fun c_1 => ?_)
  · refine ab_null (pc := 21) dX0_look_21 ?_
    refine xo_orN (pc := 22) dX0_look_22 rfl ?_
    (rw [FX0_look]; (first | rw [if_pos c_1] | (dsimp only; rw [if_pos c_1])); (first | done | rfl | (dsimp only; done)))
  · replace hD := hD.2 c_1
    refine ab_iload_n (pc := 4) dX0_look_4 rfl rfl ?_
    refine ab_aload_n (pc := 5) dX0_look_5 rfl rfl ?_
    obtain ⟨o1, hD⟩ := hD
    refine xo_gi (pc := 6) dX0_look_6 fl_X0_18 o1 rfl ?_
    refine ab_icmp_ge (pc := 9) (tgt := 21) dX0_look_9 (by decide) (fun c_9 => ?_) (fun c_9 => ?_)
    · refine ab_null (pc := 21) dX0_look_21 ?_
      refine xo_orN (pc := 22) dX0_look_22 rfl ?_
      (rw [FX0_look]; (first | rw [if_neg c_1] | (dsimp only; rw [if_neg c_1])); (first | rw [if_pos c_9] | (dsimp only; rw [if_pos c_9])); (first | done | rfl | (dsimp only; done)))
    · replace hD := hD.2 c_9
      refine ab_aload_n (pc := 12) dX0_look_12 rfl rfl ?_
      refine xo_gr (pc := 13) dX0_look_13 fl_X0_11 o1 rfl (crX_row o1) ?_
      refine ab_iload_n (pc := 16) dX0_look_16 rfl rfl ?_
      obtain ⟨o2, hD⟩ := hD
      refine ab_nat1 (ab_nat o2) ?_
      obtain ⟨o3, hD⟩ := hD
      refine xo_ald (pc := 17) dX0_look_17 (rowX_is (rowX_of o1)) (Or.inl rfl) (rowX_len (rowX_of o1)) o3 (crX_r (rowX_of o1) o3) ?_
      obtain ⟨o4, hD⟩ := hD
      refine ab_goto (pc := 18) (tgt := 22) dX0_look_18 (by decide) ?_
      refine xo_or (pc := 22) dX0_look_22 rfl ?_
      (rw [FX0_look]; (first | rw [if_neg c_1] | (dsimp only; rw [if_neg c_1])); (first | rw [if_neg c_9] | (dsimp only; rw [if_neg c_9])); (first | done | rfl | (dsimp only; done)))
def FX0_grow (s : Nat) (x : xD) : Option Nat × xD :=
  if (x.1 s 1) < (nI (12)) then
    let x2 : xD := (ab_up x.1 s 1 ((x.1 s 1) + (nI (1))), x.2)
    (some (x2.2 (s + 1) (((x2.1 s 1) - (nI (1))).toNatClampNeg)), x2)
  else
    (none, x)
def DX0_grow (s : Nat) (x : xD) : Prop :=
  (isX s 0) ∧
  (((x.1 s 1) < (nI (12))) →
    let x2 : xD := (ab_up x.1 s 1 ((x.1 s 1) + (nI (1))), x.2)
    (¬ ((x2.1 s 1) - (nI (1))) < 0) ∧
    ((((x2.1 s 1) - (nI (1))).toNatClampNeg) < 12) ∧
    (isX (x2.2 (s + 1) (((x2.1 s 1) - (nI (1))).toNatClampNeg)) 6) ∧
    True) ∧
  (¬ ((x.1 s 1) < (nI (12))) →
    True)
set_option maxRecDepth 100000 in
set_option maxHeartbeats 4000000 in
theorem c_X0_grow {tt : Prop} (s : Nat) (x : xD) (hD : DX0_grow s x) : ab_Met mX0_grow 0 0 0 tt [.ref (s : Nat)] (sX x) (xQo (FX0_grow s x)) := by
  refine ab_Met.of rfl (Nat.le_of_ble_eq_true rfl) ?_
  show xV mX0_grow 0 tt (xQo (FX0_grow s x)) 0 [some (.ref (s : Nat))] [] x
  refine ab_aload_n (pc := 0) dX0_grow_0 rfl rfl ?_
  obtain ⟨o1, hD⟩ := hD
  refine xo_gi (pc := 1) dX0_grow_1 fl_X0_18 o1 rfl ?_
  refine ab_bipush (pc := 4) (v := nI 12) dX0_grow_4 (by decide) ?_
  refine ab_icmp_lt (pc := 6) (tgt := 11) dX0_grow_6 (by decide) (fun c_6 => ?_) (fun c_6 => ?_)
  · replace hD := hD.1 c_6
    refine ab_aload_n (pc := 11) dX0_grow_11 rfl rfl ?_
    refine ab_dup (pc := 12) dX0_grow_12 rfl ?_
    refine xo_gi (pc := 13) dX0_grow_13 fl_X0_18 o1 rfl ?_
    refine ab_iconst (pc := 16) (v := nI 1) dX0_grow_16 (by decide) ?_
    refine ab_iadd (pc := 17) dX0_grow_17 ?_
    refine xo_pi (pc := 18) dX0_grow_18 fl_X0_18 o1 rfl (fun _ _ _ h => Or.inl (by cases h; rfl)) (ab_ok_i _) ?_
    refine ab_aload_n (pc := 21) dX0_grow_21 rfl rfl ?_
    refine xo_gr (pc := 22) dX0_grow_22 fl_X0_11 o1 rfl (crX_row o1) ?_
    refine ab_aload_n (pc := 25) dX0_grow_25 rfl rfl ?_
    refine xo_gi (pc := 26) dX0_grow_26 fl_X0_18 o1 rfl ?_
    refine ab_iconst (pc := 29) (v := nI 1) dX0_grow_29 (by decide) ?_
    refine ab_isub (pc := 30) dX0_grow_30 ?_
    obtain ⟨o3, hD⟩ := hD
    refine ab_nat1 (ab_nat o3) ?_
    obtain ⟨o4, hD⟩ := hD
    refine xo_ald (pc := 31) dX0_grow_31 (rowX_is (rowX_of o1)) (Or.inl rfl) (rowX_len (rowX_of o1)) o4 (crX_r (rowX_of o1) o4) ?_
    obtain ⟨o5, hD⟩ := hD
    refine xo_or (pc := 32) dX0_grow_32 rfl ?_
    (rw [FX0_grow]; (first | rw [if_pos c_6] | (dsimp only; rw [if_pos c_6])); (first | done | rfl | (dsimp only; done)))
  · refine ab_null (pc := 9) dX0_grow_9 ?_
    refine xo_orN (pc := 10) dX0_grow_10 rfl ?_
    (rw [FX0_grow]; (first | rw [if_neg c_6] | (dsimp only; rw [if_neg c_6])); (first | done | rfl | (dsimp only; done)))
def FX0_take_33 : Nat → Nat → Int32 → Nat → Int32 → xD → Option Nat × xD
  | 0, _, _, _, _, x => (none, x)
  | n + 1, s, i, a2, a3, x =>
    if (x.1 s 1) ≤ (a3) then
      let x10 : xD := (x.1, ab_up x.2 (s + 1) ((x.1 s 1).toNatClampNeg) a2)
      (some a2, x10)
    else
      let x16 : xD := (x.1, ab_up x.2 (s + 1) ((a3).toNatClampNeg) (x.2 (s + 1) (((a3) + (nI (1))).toNatClampNeg)))
      FX0_take_33 n s i a2 ((a3) + (1)) x16
def DX0_take_33 : Nat → Nat → Int32 → Nat → Int32 → xD → Prop
  | 0, _, _, _, _, _ => False
  | n + 1, s, i, a2, a3, x =>
    (isX s 0) ∧
    (((x.1 s 1) ≤ (a3)) →
      (¬ (x.1 s 1) < 0) ∧
      (((x.1 s 1).toNatClampNeg) < 12) ∧
      (isX a2 6) ∧
      let x10 : xD := (x.1, ab_up x.2 (s + 1) ((x.1 s 1).toNatClampNeg) a2)
      True) ∧
    (¬ ((x.1 s 1) ≤ (a3)) →
      (¬ ((a3) + (nI (1))) < 0) ∧
      ((((a3) + (nI (1))).toNatClampNeg) < 12) ∧
      (isX (x.2 (s + 1) (((a3) + (nI (1))).toNatClampNeg)) 6) ∧
      (¬ (a3) < 0) ∧
      (((a3).toNatClampNeg) < 12) ∧
      let x16 : xD := (x.1, ab_up x.2 (s + 1) ((a3).toNatClampNeg) (x.2 (s + 1) (((a3) + (nI (1))).toNatClampNeg)))
      DX0_take_33 n s i a2 ((a3) + (1)) x16)
set_option maxRecDepth 100000 in
set_option maxHeartbeats 4000000 in
theorem w_X0_take_33 {tt : Prop} : ∀ (n : Nat) (s : Nat) (i : Int32) (a2 : Nat) (a3 : Int32) (x : xD) (hD : DX0_take_33 n s i a2 a3 x), xV mX0_take 0 tt (xQo (FX0_take_33 n s i a2 a3 x)) 33 [some (.ref (s : Nat)), none, some (.ref (a2 : Nat)), some (.int (a3))] [] x := by
  intro n
  induction n with
  | zero => intros; rename_i hD; exact hD.elim
  | succ n ih =>
    intro s i a2 a3 x hD
    refine ab_iload_n (pc := 33) dX0_take_33 rfl rfl ?_
    refine ab_aload_n (pc := 34) dX0_take_34 rfl rfl ?_
    obtain ⟨o6, hD⟩ := hD
    refine xo_gi (pc := 35) dX0_take_35 fl_X0_18 o6 rfl ?_
    refine ab_icmp_ge (pc := 38) (tgt := 61) dX0_take_38 (by decide) (fun c_38 => ?_) (fun c_38 => ?_)
    · replace hD := hD.1 c_38
      refine ab_aload_n (pc := 61) dX0_take_61 rfl rfl ?_
      refine xo_gr (pc := 62) dX0_take_62 fl_X0_11 o6 rfl (crX_row o6) ?_
      refine ab_aload_n (pc := 65) dX0_take_65 rfl rfl ?_
      refine xo_gi (pc := 66) dX0_take_66 fl_X0_18 o6 rfl ?_
      refine ab_aload_n (pc := 69) dX0_take_69 rfl rfl ?_
      obtain ⟨o7, hD⟩ := hD
      refine ab_nat3 (ab_nat o7) ?_
      obtain ⟨o8, hD⟩ := hD
      obtain ⟨o9, hD⟩ := hD
      refine xo_ast (pc := 70) dX0_take_70 (rowX_of o6) o8 o9 ?_
      refine ab_aload_n (pc := 71) dX0_take_71 rfl rfl ?_
      refine xo_or (pc := 72) dX0_take_72 rfl ?_
      (rw [FX0_take_33]; (first | rw [if_pos c_38] | (dsimp only; rw [if_pos c_38])); (first | done | rfl | (dsimp only; done)))
    · replace hD := hD.2 c_38
      refine ab_aload_n (pc := 41) dX0_take_41 rfl rfl ?_
      refine xo_gr (pc := 42) dX0_take_42 fl_X0_11 o6 rfl (crX_row o6) ?_
      refine ab_iload_n (pc := 45) dX0_take_45 rfl rfl ?_
      refine ab_aload_n (pc := 46) dX0_take_46 rfl rfl ?_
      refine xo_gr (pc := 47) dX0_take_47 fl_X0_11 o6 rfl (crX_row o6) ?_
      refine ab_iload_n (pc := 50) dX0_take_50 rfl rfl ?_
      refine ab_iconst (pc := 51) (v := nI 1) dX0_take_51 (by decide) ?_
      refine ab_iadd (pc := 52) dX0_take_52 ?_
      obtain ⟨o11, hD⟩ := hD
      refine ab_nat1 (ab_nat o11) ?_
      obtain ⟨o12, hD⟩ := hD
      refine xo_ald (pc := 53) dX0_take_53 (rowX_is (rowX_of o6)) (Or.inl rfl) (rowX_len (rowX_of o6)) o12 (crX_r (rowX_of o6) o12) ?_
      obtain ⟨o13, hD⟩ := hD
      obtain ⟨o14, hD⟩ := hD
      refine ab_nat3 (ab_nat o14) ?_
      obtain ⟨o15, hD⟩ := hD
      refine xo_ast (pc := 54) dX0_take_54 (rowX_of o6) o15 o13 ?_
      refine ab_iinc (pc := 55) (v := _ + (1)) dX0_take_55 rfl rfl (Nat.le_of_ble_eq_true rfl) rfl ?_
      refine ab_goto (pc := 58) (tgt := 33) dX0_take_58 (by decide) ?_
      refine ab_wk (ls2 := [some _, none, some _, some _]) (And.intro rfl (And.intro rfl (And.intro rfl trivial))) ?_
      refine xo_eqo ?_ (ih _ _ _ _ _ hD)
      (rw [FX0_take_33]; (first | rw [if_neg c_38] | (dsimp only; rw [if_neg c_38])); (first | done | rfl | (dsimp only; done)))
def FX0_take (s : Nat) (i : Int32) (x : xD) : Option Nat × xD :=
  if (i) < 0 then
    (none, x)
  else
    if (i) < (x.1 s 1) then
      let x5 : xD := (ab_up x.1 s 1 ((x.1 s 1) - (nI (1))), x.2)
      FX0_take_33 13 s i (x.2 (s + 1) ((i).toNatClampNeg)) (i) x5
    else
      (none, x)
def DX0_take (s : Nat) (i : Int32) (x : xD) : Prop :=
  (((i) < 0) →
    True) ∧
  (¬ ((i) < 0) →
    (isX s 0) ∧
    (((i) < (x.1 s 1)) →
      (¬ (i) < 0) ∧
      (((i).toNatClampNeg) < 12) ∧
      (isX (x.2 (s + 1) ((i).toNatClampNeg)) 6) ∧
      let x5 : xD := (ab_up x.1 s 1 ((x.1 s 1) - (nI (1))), x.2)
      DX0_take_33 13 s i (x.2 (s + 1) ((i).toNatClampNeg)) (i) x5) ∧
    (¬ ((i) < (x.1 s 1)) →
      True))
set_option maxRecDepth 100000 in
set_option maxHeartbeats 4000000 in
theorem c_X0_take {tt : Prop} (s : Nat) (i : Int32) (x : xD) (hD : DX0_take s i x) : ab_Met mX0_take 0 0 0 tt [.ref (s : Nat), .int (i)] (sX x) (xQo (FX0_take s i x)) := by
  refine ab_Met.of rfl (Nat.le_of_ble_eq_true rfl) ?_
  show xV mX0_take 0 tt (xQo (FX0_take s i x)) 0 [some (.ref (s : Nat)), some (.int (i)), none, none] [] x
  refine ab_iload_n (pc := 0) dX0_take_0 rfl rfl ?_
  refine ab_if_lt (pc := 1) (tgt := 12) dX0_take_1 (by decide) (fun c_1 => ?_) (fun c_1 => ?_)
  · refine ab_null (pc := 12) dX0_take_12 ?_
    refine xo_orN (pc := 13) dX0_take_13 rfl ?_
    (rw [FX0_take]; (first | rw [if_pos c_1] | (dsimp only; rw [if_pos c_1])); (first | done | rfl | (dsimp only; done)))
  · replace hD := hD.2 c_1
    refine ab_iload_n (pc := 4) dX0_take_4 rfl rfl ?_
    refine ab_aload_n (pc := 5) dX0_take_5 rfl rfl ?_
    obtain ⟨o1, hD⟩ := hD
    refine xo_gi (pc := 6) dX0_take_6 fl_X0_18 o1 rfl ?_
    refine ab_icmp_lt (pc := 9) (tgt := 14) dX0_take_9 (by decide) (fun c_9 => ?_) (fun c_9 => ?_)
    · replace hD := hD.1 c_9
      refine ab_aload_n (pc := 14) dX0_take_14 rfl rfl ?_
      refine xo_gr (pc := 15) dX0_take_15 fl_X0_11 o1 rfl (crX_row o1) ?_
      refine ab_iload_n (pc := 18) dX0_take_18 rfl rfl ?_
      obtain ⟨o2, hD⟩ := hD
      refine ab_nat1 (ab_nat o2) ?_
      obtain ⟨o3, hD⟩ := hD
      refine xo_ald (pc := 19) dX0_take_19 (rowX_is (rowX_of o1)) (Or.inl rfl) (rowX_len (rowX_of o1)) o3 (crX_r (rowX_of o1) o3) ?_
      obtain ⟨o4, hD⟩ := hD
      refine ab_astore_n (pc := 20) dX0_take_20 rfl (Nat.le_of_ble_eq_true rfl) rfl ?_
      refine ab_aload_n (pc := 21) dX0_take_21 rfl rfl ?_
      refine ab_dup (pc := 22) dX0_take_22 rfl ?_
      refine xo_gi (pc := 23) dX0_take_23 fl_X0_18 o1 rfl ?_
      refine ab_iconst (pc := 26) (v := nI 1) dX0_take_26 (by decide) ?_
      refine ab_isub (pc := 27) dX0_take_27 ?_
      refine xo_pi (pc := 28) dX0_take_28 fl_X0_18 o1 rfl (fun _ _ _ h => Or.inl (by cases h; rfl)) (ab_ok_i _) ?_
      refine ab_iload_n (pc := 31) dX0_take_31 rfl rfl ?_
      refine ab_istore_n (pc := 32) dX0_take_32 rfl (Nat.le_of_ble_eq_true rfl) rfl ?_
      refine ab_wk (ls2 := [some _, none, some _, some _]) (And.intro rfl (And.intro rfl (And.intro rfl trivial))) ?_
      refine xo_eqo ?_ (w_X0_take_33 13 _ _ _ _ _ hD)
      (rw [FX0_take]; (first | rw [if_neg c_1] | (dsimp only; rw [if_neg c_1])); (first | rw [if_pos c_9] | (dsimp only; rw [if_pos c_9])); (first | done | rfl | (dsimp only; done)))
    · refine ab_null (pc := 12) dX0_take_12 ?_
      refine xo_orN (pc := 13) dX0_take_13 rfl ?_
      (rw [FX0_take]; (first | rw [if_neg c_1] | (dsimp only; rw [if_neg c_1])); (first | rw [if_neg c_9] | (dsimp only; rw [if_neg c_9])); (first | done | rfl | (dsimp only; done)))
def FX0_firstFor_2 : Nat → Nat → Int32 → Nat → xD → Int32
  | 0, _, _, _, _ => 0
  | n + 1, s, w, a2, x =>
    if (x.1 s 1) ≤ (nI (a2)) then
      (-1)
    else
      if (x.1 (x.2 (s + 1) a2) 2) = 0 then
        (nI (a2))
      else
        if (((w) >>> ((x.1 (x.2 (s + 1) a2) 1) &&& 31)) &&& (nI (1))) = (nI (1)) then
          (nI (a2))
        else
          FX0_firstFor_2 n s w (a2 + 1) x
def DX0_firstFor_2 : Nat → Nat → Int32 → Nat → xD → Prop
  | 0, _, _, _, _ => False
  | n + 1, s, w, a2, x =>
    (isX s 0) ∧
    (((x.1 s 1) ≤ (nI (a2))) →
      True) ∧
    (¬ ((x.1 s 1) ≤ (nI (a2))) →
      (a2 < 12) ∧
      (isX (x.2 (s + 1) a2) 6) ∧
      (((x.1 (x.2 (s + 1) a2) 2) = 0) →
        True) ∧
      (¬ ((x.1 (x.2 (s + 1) a2) 2) = 0) →
        (a2 < 12) ∧
        (isX (x.2 (s + 1) a2) 6) ∧
        (((((w) >>> ((x.1 (x.2 (s + 1) a2) 1) &&& 31)) &&& (nI (1))) = (nI (1))) →
          True) ∧
        (¬ ((((w) >>> ((x.1 (x.2 (s + 1) a2) 1) &&& 31)) &&& (nI (1))) = (nI (1))) →
          DX0_firstFor_2 n s w (a2 + 1) x)))
set_option maxRecDepth 100000 in
set_option maxHeartbeats 4000000 in
theorem w_X0_firstFor_2 {tt : Prop} : ∀ (n : Nat) (s : Nat) (w : Int32) (a2 : Nat) (x : xD) (hD : DX0_firstFor_2 n s w a2 x), xV mX0_firstFor 0 tt (xQi (FX0_firstFor_2 n s w a2 x, x)) 2 [some (.ref (s : Nat)), some (.int (w)), some (.int (nI (a2)))] [] x := by
  intro n
  induction n with
  | zero => intros; rename_i hD; exact hD.elim
  | succ n ih =>
    intro s w a2 x hD
    refine ab_iload_n (pc := 2) dX0_firstFor_2 rfl rfl ?_
    refine ab_aload_n (pc := 3) dX0_firstFor_3 rfl rfl ?_
    obtain ⟨o1, hD⟩ := hD
    refine xo_gi (pc := 4) dX0_firstFor_4 fl_X0_18 o1 rfl ?_
    refine ab_icmp_ge (pc := 7) (tgt := 47) dX0_firstFor_7 (by decide) (fun c_7 => ?_) (fun c_7 => ?_)
    · refine ab_iconst (pc := 47) (v := -1) dX0_firstFor_47 (by decide) ?_
      refine xo_ir (pc := 48) dX0_firstFor_48 rfl rfl ?_
      (rw [FX0_firstFor_2]; (first | rw [if_pos c_7] | (dsimp only; rw [if_pos c_7])); (first | done | rfl | (dsimp only; done)))
    · replace hD := hD.2 c_7
      refine ab_aload_n (pc := 10) dX0_firstFor_10 rfl rfl ?_
      refine xo_gr (pc := 11) dX0_firstFor_11 fl_X0_11 o1 rfl (crX_row o1) ?_
      refine ab_iload_n (pc := 14) dX0_firstFor_14 rfl rfl ?_
      obtain ⟨o2, hD⟩ := hD
      refine xo_ald (pc := 15) dX0_firstFor_15 (rowX_is (rowX_of o1)) (Or.inl rfl) (rowX_len (rowX_of o1)) o2 (crX_r (rowX_of o1) o2) ?_
      obtain ⟨o3, hD⟩ := hD
      refine xo_gi (pc := 16) dX0_firstFor_16 fl_X0_22 o3 rfl ?_
      refine ab_if_eq (pc := 19) (tgt := 39) dX0_firstFor_19 (by decide) (fun c_19 => ?_) (fun c_19 => ?_)
      · refine ab_iload_n (pc := 39) dX0_firstFor_39 rfl rfl ?_
        refine xo_ir (pc := 40) dX0_firstFor_40 rfl rfl ?_
        (rw [FX0_firstFor_2]; (first | rw [if_neg c_7] | (dsimp only; rw [if_neg c_7])); (first | rw [if_pos c_19] | (dsimp only; rw [if_pos c_19])); (first | done | rfl | (dsimp only; done)))
      · replace hD := hD.2 c_19
        refine ab_iload_n (pc := 22) dX0_firstFor_22 rfl rfl ?_
        refine ab_aload_n (pc := 23) dX0_firstFor_23 rfl rfl ?_
        refine xo_gr (pc := 24) dX0_firstFor_24 fl_X0_11 o1 rfl (crX_row o1) ?_
        refine ab_iload_n (pc := 27) dX0_firstFor_27 rfl rfl ?_
        obtain ⟨o4, hD⟩ := hD
        refine xo_ald (pc := 28) dX0_firstFor_28 (rowX_is (rowX_of o1)) (Or.inl rfl) (rowX_len (rowX_of o1)) o4 (crX_r (rowX_of o1) o4) ?_
        obtain ⟨o5, hD⟩ := hD
        refine xo_gi (pc := 29) dX0_firstFor_29 fl_X0_25 o5 rfl ?_
        refine ab_ishr (pc := 32) dX0_firstFor_32 ?_
        refine ab_iconst (pc := 33) (v := nI 1) dX0_firstFor_33 (by decide) ?_
        refine ab_iand (pc := 34) dX0_firstFor_34 ?_
        refine ab_iconst (pc := 35) (v := nI 1) dX0_firstFor_35 (by decide) ?_
        refine ab_icmp_ne (pc := 36) (tgt := 41) dX0_firstFor_36 (by decide) (fun c_36 => ?_) (fun c_36 => ?_)
        · replace hD := hD.2 c_36
          refine ab_iinc (pc := 41) dX0_firstFor_41 rfl (ab_inc _) (Nat.le_of_ble_eq_true rfl) rfl ?_
          refine ab_goto (pc := 44) (tgt := 2) dX0_firstFor_44 (by decide) ?_
          refine xo_eqr ?_ (ih _ _ _ _ hD)
          (rw [FX0_firstFor_2]; (first | rw [if_neg c_7] | (dsimp only; rw [if_neg c_7])); (first | rw [if_neg c_19] | (dsimp only; rw [if_neg c_19])); (first | rw [if_neg c_36] | (dsimp only; rw [if_neg c_36])); (first | done | rfl | (dsimp only; done)))
        · refine ab_iload_n (pc := 39) dX0_firstFor_39 rfl rfl ?_
          refine xo_ir (pc := 40) dX0_firstFor_40 rfl rfl ?_
          (rw [FX0_firstFor_2]; (first | rw [if_neg c_7] | (dsimp only; rw [if_neg c_7])); (first | rw [if_neg c_19] | (dsimp only; rw [if_neg c_19])); (first | rw [if_pos c_36] | (dsimp only; rw [if_pos c_36])); (first | done | rfl | (dsimp only; done)))
def FX0_firstFor (s : Nat) (w : Int32) (x : xD) : Int32 :=
  FX0_firstFor_2 13 s w 0 x
def DX0_firstFor (s : Nat) (w : Int32) (x : xD) : Prop :=
  DX0_firstFor_2 13 s w 0 x
set_option maxRecDepth 100000 in
set_option maxHeartbeats 4000000 in
theorem c_X0_firstFor {tt : Prop} (s : Nat) (w : Int32) (x : xD) (hD : DX0_firstFor s w x) : ab_Met mX0_firstFor 0 0 0 tt [.ref (s : Nat), .int (w)] (sX x) (xQi (FX0_firstFor s w x, x)) := by
  refine ab_Met.of rfl (Nat.le_of_ble_eq_true rfl) ?_
  show xV mX0_firstFor 0 tt (xQi (FX0_firstFor s w x, x)) 0 [some (.ref (s : Nat)), some (.int (w)), none] [] x
  refine ab_iconst (pc := 0) (v := nI 0) dX0_firstFor_0 (by decide) ?_
  refine ab_istore_n (pc := 1) dX0_firstFor_1 rfl (Nat.le_of_ble_eq_true rfl) rfl ?_
  refine xo_eqr ?_ (w_X0_firstFor_2 13 _ _ _ _ hD)
  first | rfl | (rw [FX0_firstFor]; done) | (rw [FX0_firstFor]; rfl)
def FX0_firstOf_2 : Nat → Nat → Int32 → Nat → xD → Int32
  | 0, _, _, _, _ => 0
  | n + 1, s, w, a2, x =>
    if (x.1 s 1) ≤ (nI (a2)) then
      (-1)
    else
      if (x.1 (x.2 (s + 1) a2) 2) = (w) then
        (nI (a2))
      else
        FX0_firstOf_2 n s w (a2 + 1) x
def DX0_firstOf_2 : Nat → Nat → Int32 → Nat → xD → Prop
  | 0, _, _, _, _ => False
  | n + 1, s, w, a2, x =>
    (isX s 0) ∧
    (((x.1 s 1) ≤ (nI (a2))) →
      True) ∧
    (¬ ((x.1 s 1) ≤ (nI (a2))) →
      (a2 < 12) ∧
      (isX (x.2 (s + 1) a2) 6) ∧
      (((x.1 (x.2 (s + 1) a2) 2) = (w)) →
        True) ∧
      (¬ ((x.1 (x.2 (s + 1) a2) 2) = (w)) →
        DX0_firstOf_2 n s w (a2 + 1) x))
set_option maxRecDepth 100000 in
set_option maxHeartbeats 4000000 in
theorem w_X0_firstOf_2 {tt : Prop} : ∀ (n : Nat) (s : Nat) (w : Int32) (a2 : Nat) (x : xD) (hD : DX0_firstOf_2 n s w a2 x), xV mX0_firstOf 0 tt (xQi (FX0_firstOf_2 n s w a2 x, x)) 2 [some (.ref (s : Nat)), some (.int (w)), some (.int (nI (a2)))] [] x := by
  intro n
  induction n with
  | zero => intros; rename_i hD; exact hD.elim
  | succ n ih =>
    intro s w a2 x hD
    refine ab_iload_n (pc := 2) dX0_firstOf_2 rfl rfl ?_
    refine ab_aload_n (pc := 3) dX0_firstOf_3 rfl rfl ?_
    obtain ⟨o1, hD⟩ := hD
    refine xo_gi (pc := 4) dX0_firstOf_4 fl_X0_18 o1 rfl ?_
    refine ab_icmp_ge (pc := 7) (tgt := 31) dX0_firstOf_7 (by decide) (fun c_7 => ?_) (fun c_7 => ?_)
    · refine ab_iconst (pc := 31) (v := -1) dX0_firstOf_31 (by decide) ?_
      refine xo_ir (pc := 32) dX0_firstOf_32 rfl rfl ?_
      (rw [FX0_firstOf_2]; (first | rw [if_pos c_7] | (dsimp only; rw [if_pos c_7])); (first | done | rfl | (dsimp only; done)))
    · replace hD := hD.2 c_7
      refine ab_aload_n (pc := 10) dX0_firstOf_10 rfl rfl ?_
      refine xo_gr (pc := 11) dX0_firstOf_11 fl_X0_11 o1 rfl (crX_row o1) ?_
      refine ab_iload_n (pc := 14) dX0_firstOf_14 rfl rfl ?_
      obtain ⟨o2, hD⟩ := hD
      refine xo_ald (pc := 15) dX0_firstOf_15 (rowX_is (rowX_of o1)) (Or.inl rfl) (rowX_len (rowX_of o1)) o2 (crX_r (rowX_of o1) o2) ?_
      obtain ⟨o3, hD⟩ := hD
      refine xo_gi (pc := 16) dX0_firstOf_16 fl_X0_22 o3 rfl ?_
      refine ab_iload_n (pc := 19) dX0_firstOf_19 rfl rfl ?_
      refine ab_icmp_ne (pc := 20) (tgt := 25) dX0_firstOf_20 (by decide) (fun c_20 => ?_) (fun c_20 => ?_)
      · replace hD := hD.2 c_20
        refine ab_iinc (pc := 25) dX0_firstOf_25 rfl (ab_inc _) (Nat.le_of_ble_eq_true rfl) rfl ?_
        refine ab_goto (pc := 28) (tgt := 2) dX0_firstOf_28 (by decide) ?_
        refine xo_eqr ?_ (ih _ _ _ _ hD)
        (rw [FX0_firstOf_2]; (first | rw [if_neg c_7] | (dsimp only; rw [if_neg c_7])); (first | rw [if_neg c_20] | (dsimp only; rw [if_neg c_20])); (first | done | rfl | (dsimp only; done)))
      · refine ab_iload_n (pc := 23) dX0_firstOf_23 rfl rfl ?_
        refine xo_ir (pc := 24) dX0_firstOf_24 rfl rfl ?_
        (rw [FX0_firstOf_2]; (first | rw [if_neg c_7] | (dsimp only; rw [if_neg c_7])); (first | rw [if_pos c_20] | (dsimp only; rw [if_pos c_20])); (first | done | rfl | (dsimp only; done)))
def FX0_firstOf (s : Nat) (w : Int32) (x : xD) : Int32 :=
  FX0_firstOf_2 13 s w 0 x
def DX0_firstOf (s : Nat) (w : Int32) (x : xD) : Prop :=
  DX0_firstOf_2 13 s w 0 x
set_option maxRecDepth 100000 in
set_option maxHeartbeats 4000000 in
theorem c_X0_firstOf {tt : Prop} (s : Nat) (w : Int32) (x : xD) (hD : DX0_firstOf s w x) : ab_Met mX0_firstOf 0 0 0 tt [.ref (s : Nat), .int (w)] (sX x) (xQi (FX0_firstOf s w x, x)) := by
  refine ab_Met.of rfl (Nat.le_of_ble_eq_true rfl) ?_
  show xV mX0_firstOf 0 tt (xQi (FX0_firstOf s w x, x)) 0 [some (.ref (s : Nat)), some (.int (w)), none] [] x
  refine ab_iconst (pc := 0) (v := nI 0) dX0_firstOf_0 (by decide) ?_
  refine ab_istore_n (pc := 1) dX0_firstOf_1 rfl (Nat.le_of_ble_eq_true rfl) rfl ?_
  refine xo_eqr ?_ (w_X0_firstOf_2 13 _ _ _ _ hD)
  first | rfl | (rw [FX0_firstOf]; done) | (rw [FX0_firstOf]; rfl)
def FX0_dropFrom_7 : Nat → Nat → Int32 → Int32 → xD → xD
  | 0, _, _, _, x => x
  | n + 1, s, w, a2, x =>
    if (a2) < 0 then
      x
    else
      if (x.1 (x.2 (s + 1) ((a2).toNatClampNeg)) 1) = (w) then
        let z8 := FX0_take s (a2) x
        FX0_dropFrom_7 n s w ((a2) + (-1)) z8.2
      else
        FX0_dropFrom_7 n s w ((a2) + (-1)) x
def DX0_dropFrom_7 : Nat → Nat → Int32 → Int32 → xD → Prop
  | 0, _, _, _, _ => False
  | n + 1, s, w, a2, x =>
    (((a2) < 0) →
      True) ∧
    (¬ ((a2) < 0) →
      (isX s 0) ∧
      (¬ (a2) < 0) ∧
      (((a2).toNatClampNeg) < 12) ∧
      (isX (x.2 (s + 1) ((a2).toNatClampNeg)) 6) ∧
      (((x.1 (x.2 (s + 1) ((a2).toNatClampNeg)) 1) = (w)) →
        (DX0_take s (a2) x) ∧
        let z8 := FX0_take s (a2) x
        DX0_dropFrom_7 n s w ((a2) + (-1)) z8.2) ∧
      (¬ ((x.1 (x.2 (s + 1) ((a2).toNatClampNeg)) 1) = (w)) →
        DX0_dropFrom_7 n s w ((a2) + (-1)) x))
set_option maxRecDepth 100000 in
set_option maxHeartbeats 4000000 in
theorem w_X0_dropFrom_7 {tt : Prop} : ∀ (n : Nat) (s : Nat) (w : Int32) (a2 : Int32) (x : xD) (hD : DX0_dropFrom_7 n s w a2 x), xV mX0_dropFrom 1 tt (xQv (FX0_dropFrom_7 n s w a2 x)) 7 [some (.ref (s : Nat)), some (.int (w)), some (.int (a2))] [] x := by
  intro n
  induction n with
  | zero => intros; rename_i hD; exact hD.elim
  | succ n ih =>
    intro s w a2 x hD
    refine ab_iload_n (pc := 7) dX0_dropFrom_7 rfl rfl ?_
    refine ab_if_lt (pc := 8) (tgt := 36) dX0_dropFrom_8 (by decide) (fun c_8 => ?_) (fun c_8 => ?_)
    · refine xo_vr (pc := 36) dX0_dropFrom_36 rfl ?_
      (rw [FX0_dropFrom_7]; (first | rw [if_pos c_8] | (dsimp only; rw [if_pos c_8])); (first | done | rfl | (dsimp only; done)))
    · replace hD := hD.2 c_8
      refine ab_aload_n (pc := 11) dX0_dropFrom_11 rfl rfl ?_
      obtain ⟨o2, hD⟩ := hD
      refine xo_gr (pc := 12) dX0_dropFrom_12 fl_X0_11 o2 rfl (crX_row o2) ?_
      refine ab_iload_n (pc := 15) dX0_dropFrom_15 rfl rfl ?_
      obtain ⟨o3, hD⟩ := hD
      refine ab_nat1 (ab_nat o3) ?_
      obtain ⟨o4, hD⟩ := hD
      refine xo_ald (pc := 16) dX0_dropFrom_16 (rowX_is (rowX_of o2)) (Or.inl rfl) (rowX_len (rowX_of o2)) o4 (crX_r (rowX_of o2) o4) ?_
      obtain ⟨o5, hD⟩ := hD
      refine xo_gi (pc := 17) dX0_dropFrom_17 fl_X0_25 o5 rfl ?_
      refine ab_iload_n (pc := 20) dX0_dropFrom_20 rfl rfl ?_
      refine ab_icmp_ne (pc := 21) (tgt := 30) dX0_dropFrom_21 (by decide) (fun c_21 => ?_) (fun c_21 => ?_)
      · replace hD := hD.2 c_21
        refine ab_iinc (pc := 30) (v := _ + (-1)) dX0_dropFrom_30 rfl rfl (Nat.le_of_ble_eq_true rfl) rfl ?_
        refine ab_goto (pc := 33) (tgt := 7) dX0_dropFrom_33 (by decide) ?_
        refine xo_eqv ?_ (ih _ _ _ _ hD)
        (rw [FX0_dropFrom_7]; (first | rw [if_neg c_8] | (dsimp only; rw [if_neg c_8])); (first | rw [if_neg c_21] | (dsimp only; rw [if_neg c_21])); (first | done | rfl | (dsimp only; done)))
      · replace hD := hD.1 c_21
        refine ab_aload_n (pc := 24) dX0_dropFrom_24 rfl rfl ?_
        refine ab_iload_n (pc := 25) dX0_dropFrom_25 rfl rfl ?_
        obtain ⟨o6, hD⟩ := hD
        have e7 := c_X0_take (tt := tt) _ _ _ o6
        refine xo_invp (N := mX0_take) (pc := 26) (d' := 0) (av := [_]) dX0_dropFrom_26 ml_X0_28 fv_X0_take o2 (Nat.le_of_ble_eq_true rfl) (by decide) e7 dX0_dropFrom_29 ?_
        refine ab_iinc (pc := 30) (v := _ + (-1)) dX0_dropFrom_30 rfl rfl (Nat.le_of_ble_eq_true rfl) rfl ?_
        refine ab_goto (pc := 33) (tgt := 7) dX0_dropFrom_33 (by decide) ?_
        refine xo_eqv ?_ (ih _ _ _ _ hD)
        (rw [FX0_dropFrom_7]; (first | rw [if_neg c_8] | (dsimp only; rw [if_neg c_8])); (first | rw [if_pos c_21] | (dsimp only; rw [if_pos c_21])); (first | done | rfl | (dsimp only; done)))
def FX0_dropFrom (s : Nat) (w : Int32) (x : xD) : xD :=
  FX0_dropFrom_7 13 s w ((x.1 s 1) - (nI (1))) x
def DX0_dropFrom (s : Nat) (w : Int32) (x : xD) : Prop :=
  (isX s 0) ∧
  DX0_dropFrom_7 13 s w ((x.1 s 1) - (nI (1))) x
set_option maxRecDepth 100000 in
set_option maxHeartbeats 4000000 in
theorem c_X0_dropFrom {tt : Prop} (s : Nat) (w : Int32) (x : xD) (hD : DX0_dropFrom s w x) : ab_Met mX0_dropFrom 1 0 0 tt [.ref (s : Nat), .int (w)] (sX x) (xQv (FX0_dropFrom s w x)) := by
  refine ab_Met.of rfl (Nat.le_of_ble_eq_true rfl) ?_
  show xV mX0_dropFrom 1 tt (xQv (FX0_dropFrom s w x)) 0 [some (.ref (s : Nat)), some (.int (w)), none] [] x
  refine ab_aload_n (pc := 0) dX0_dropFrom_0 rfl rfl ?_
  obtain ⟨o1, hD⟩ := hD
  refine xo_gi (pc := 1) dX0_dropFrom_1 fl_X0_18 o1 rfl ?_
  refine ab_iconst (pc := 4) (v := nI 1) dX0_dropFrom_4 (by decide) ?_
  refine ab_isub (pc := 5) dX0_dropFrom_5 ?_
  refine ab_istore_n (pc := 6) dX0_dropFrom_6 rfl (Nat.le_of_ble_eq_true rfl) rfl ?_
  refine xo_eqv ?_ (w_X0_dropFrom_7 13 _ _ _ _ hD)
  first | rfl | (rw [FX0_dropFrom]; done) | (rw [FX0_dropFrom]; rfl)
def FX4_has (f : Int32) (x : xD) : Int32 :=
  if (f) < 0 then
    (nI (0))
  else
    if (nI (16)) ≤ (f) then
      (nI (0))
    else
      if (x.1 349 ((f).toNatClampNeg)) = 0 then
        (nI (0))
      else
        (nI (1))
def DX4_has (f : Int32) (x : xD) : Prop :=
  (((f) < 0) →
    True) ∧
  (¬ ((f) < 0) →
    (((nI (16)) ≤ (f)) →
      True) ∧
    (¬ ((nI (16)) ≤ (f)) →
      (¬ (f) < 0) ∧
      (((f).toNatClampNeg) < 16) ∧
      True))
set_option maxRecDepth 100000 in
set_option maxHeartbeats 4000000 in
theorem c_X4_has {tt : Prop} (f : Int32) (x : xD) (hD : DX4_has f x) : ab_Met mX4_has 0 0 0 tt [.ref (348 : Nat), .int (f)] (sX x) (xQi (FX4_has f x, x)) := by
  refine ab_Met.of rfl (Nat.le_of_ble_eq_true rfl) ?_
  show xV mX4_has 0 tt (xQi (FX4_has f x, x)) 0 [some (.ref (348 : Nat)), some (.int (f))] [] x
  refine ab_iload_n (pc := 0) dX4_has_0 rfl rfl ?_
  refine ab_if_lt (pc := 1) (tgt := 23) dX4_has_1 (by decide) (fun c_1 => ?_) (fun c_1 => ?_)
  · refine ab_iconst (pc := 23) (v := nI 0) dX4_has_23 (by decide) ?_
    refine xo_ir (pc := 24) dX4_has_24 rfl (ab_nb (Or.inl rfl)) ?_
    (rw [FX4_has]; (first | rw [if_pos c_1] | (dsimp only; rw [if_pos c_1])); (first | done | rfl | (dsimp only; done)))
  · replace hD := hD.2 c_1
    refine ab_iload_n (pc := 4) dX4_has_4 rfl rfl ?_
    refine ab_bipush (pc := 5) (v := nI 16) dX4_has_5 (by decide) ?_
    refine ab_icmp_ge (pc := 7) (tgt := 23) dX4_has_7 (by decide) (fun c_7 => ?_) (fun c_7 => ?_)
    · refine ab_iconst (pc := 23) (v := nI 0) dX4_has_23 (by decide) ?_
      refine xo_ir (pc := 24) dX4_has_24 rfl (ab_nb (Or.inl rfl)) ?_
      (rw [FX4_has]; (first | rw [if_neg c_1] | (dsimp only; rw [if_neg c_1])); (first | rw [if_pos c_7] | (dsimp only; rw [if_pos c_7])); (first | done | rfl | (dsimp only; done)))
    · replace hD := hD.2 c_7
      refine ab_aload_n (pc := 10) dX4_has_10 rfl rfl ?_
      refine xo_gr (pc := 11) (a := (349 : Nat)) dX4_has_11 fl_X4_9 (by decide) rfl rfl ?_
      refine ab_iload_n (pc := 14) dX4_has_14 rfl rfl ?_
      obtain ⟨o1, hD⟩ := hD
      refine ab_nat1 (ab_nat o1) ?_
      obtain ⟨o2, hD⟩ := hD
      refine xo_zld (pc := 15) dX4_has_15 (by decide) rfl o2 (by decide) ?_
      refine ab_if_eq (pc := 16) (tgt := 23) dX4_has_16 (by decide) (fun c_16 => ?_) (fun c_16 => ?_)
      · refine ab_iconst (pc := 23) (v := nI 0) dX4_has_23 (by decide) ?_
        refine xo_ir (pc := 24) dX4_has_24 rfl (ab_nb (Or.inl rfl)) ?_
        (rw [FX4_has]; (first | rw [if_neg c_1] | (dsimp only; rw [if_neg c_1])); (first | rw [if_neg c_7] | (dsimp only; rw [if_neg c_7])); (first | rw [if_pos c_16] | (dsimp only; rw [if_pos c_16])); (first | done | rfl | (dsimp only; done)))
      · refine ab_iconst (pc := 19) (v := nI 1) dX4_has_19 (by decide) ?_
        refine ab_goto (pc := 20) (tgt := 24) dX4_has_20 (by decide) ?_
        refine xo_ir (pc := 24) dX4_has_24 rfl (ab_nb (Or.inr rfl)) ?_
        (rw [FX4_has]; (first | rw [if_neg c_1] | (dsimp only; rw [if_neg c_1])); (first | rw [if_neg c_7] | (dsimp only; rw [if_neg c_7])); (first | rw [if_neg c_16] | (dsimp only; rw [if_neg c_16])); (first | done | rfl | (dsimp only; done)))
def FX4_sizeOf (f : Int32) (x : xD) : Int32 :=
  if (FX4_has (f) x) = 0 then
    (-1)
  else
    (x.1 350 ((f).toNatClampNeg))
def DX4_sizeOf (f : Int32) (x : xD) : Prop :=
  (DX4_has (f) x) ∧
  (((FX4_has (f) x) = 0) →
    True) ∧
  (¬ ((FX4_has (f) x) = 0) →
    (¬ (f) < 0) ∧
    (((f).toNatClampNeg) < 16) ∧
    True)
set_option maxRecDepth 100000 in
set_option maxHeartbeats 4000000 in
theorem c_X4_sizeOf {tt : Prop} (f : Int32) (x : xD) (hD : DX4_sizeOf f x) : ab_Met mX4_sizeOf 1 0 0 tt [.ref (348 : Nat), .int (f)] (sX x) (xQi (FX4_sizeOf f x, x)) := by
  refine ab_Met.of rfl (Nat.le_of_ble_eq_true rfl) ?_
  show xV mX4_sizeOf 1 tt (xQi (FX4_sizeOf f x, x)) 0 [some (.ref (348 : Nat)), some (.int (f))] [] x
  refine ab_aload_n (pc := 0) dX4_sizeOf_0 rfl rfl ?_
  refine ab_iload_n (pc := 1) dX4_sizeOf_1 rfl rfl ?_
  obtain ⟨o1, hD⟩ := hD
  have e2 := c_X4_has (tt := tt) _ _ o1
  refine xo_invr (N := mX4_has) (pc := 2) (d' := 0) (av := [_]) dX4_sizeOf_2 ml_X4_29 fv_X4_has (by decide) (Nat.le_of_ble_eq_true rfl) (by decide) e2 ?_
  refine ab_if_eq (pc := 5) (tgt := 17) dX4_sizeOf_5 (by decide) (fun c_5 => ?_) (fun c_5 => ?_)
  · refine ab_iconst (pc := 17) (v := -1) dX4_sizeOf_17 (by decide) ?_
    refine xo_ir (pc := 18) dX4_sizeOf_18 rfl rfl ?_
    (rw [FX4_sizeOf]; (first | rw [if_pos c_5] | (dsimp only; rw [if_pos c_5])); (first | done | rfl | (dsimp only; done)))
  · replace hD := hD.2 c_5
    refine ab_aload_n (pc := 8) dX4_sizeOf_8 rfl rfl ?_
    refine xo_gr (pc := 9) (a := (350 : Nat)) dX4_sizeOf_9 fl_X4_15 (by decide) rfl rfl ?_
    refine ab_iload_n (pc := 12) dX4_sizeOf_12 rfl rfl ?_
    obtain ⟨o3, hD⟩ := hD
    refine ab_nat1 (ab_nat o3) ?_
    obtain ⟨o4, hD⟩ := hD
    refine xo_ild (pc := 13) dX4_sizeOf_13 (by decide) rfl o4 (by decide) ?_
    refine ab_goto (pc := 14) (tgt := 18) dX4_sizeOf_14 (by decide) ?_
    refine xo_ir (pc := 18) dX4_sizeOf_18 rfl rfl ?_
    (rw [FX4_sizeOf]; (first | rw [if_neg c_5] | (dsimp only; rw [if_neg c_5])); (first | done | rfl | (dsimp only; done)))
def FX4_blockOf (f : Int32) (i : Int64) (x : xD) : Int32 :=
  if (FX4_has (f) x) = 0 then
    (-1)
  else
    if (lg_cmp (i) (0)) < 0 then
      (-1)
    else
      if 0 ≤ (lg_cmp (i) (4)) then
        (-1)
      else
        if (lg_cmp ((i) * (8)) ((x.1 350 ((f).toNatClampNeg)).toInt64)) < 0 then
          (x.1 351 ((((f) * (nI (4))) + ((i : Int64).toInt32)).toNatClampNeg))
        else
          (-1)
def DX4_blockOf (f : Int32) (i : Int64) (x : xD) : Prop :=
  (DX4_has (f) x) ∧
  (((FX4_has (f) x) = 0) →
    True) ∧
  (¬ ((FX4_has (f) x) = 0) →
    (((lg_cmp (i) (0)) < 0) →
      True) ∧
    (¬ ((lg_cmp (i) (0)) < 0) →
      ((0 ≤ (lg_cmp (i) (4))) →
        True) ∧
      (¬ (0 ≤ (lg_cmp (i) (4))) →
        (¬ (f) < 0) ∧
        (((f).toNatClampNeg) < 16) ∧
        (((lg_cmp ((i) * (8)) ((x.1 350 ((f).toNatClampNeg)).toInt64)) < 0) →
          (¬ (((f) * (nI (4))) + ((i : Int64).toInt32)) < 0) ∧
          (((((f) * (nI (4))) + ((i : Int64).toInt32)).toNatClampNeg) < 64) ∧
          True) ∧
        (¬ ((lg_cmp ((i) * (8)) ((x.1 350 ((f).toNatClampNeg)).toInt64)) < 0) →
          True))))
set_option maxRecDepth 100000 in
set_option maxHeartbeats 4000000 in
theorem c_X4_blockOf {tt : Prop} (f : Int32) (i : Int64) (x : xD) (hD : DX4_blockOf f i x) : ab_Met mX4_blockOf 1 0 0 tt [.ref (348 : Nat), .int (f), .long (i)] (sX x) (xQi (FX4_blockOf f i x, x)) := by
  refine ab_Met.of rfl (Nat.le_of_ble_eq_true rfl) ?_
  show xV mX4_blockOf 1 tt (xQi (FX4_blockOf f i x, x)) 0 [some (.ref (348 : Nat)), some (.int (f)), some (.long (i)), none] [] x
  refine ab_aload_n (pc := 0) dX4_blockOf_0 rfl rfl ?_
  refine ab_iload_n (pc := 1) dX4_blockOf_1 rfl rfl ?_
  obtain ⟨o1, hD⟩ := hD
  have e2 := c_X4_has (tt := tt) _ _ o1
  refine xo_invr (N := mX4_has) (pc := 2) (d' := 0) (av := [_]) dX4_blockOf_2 ml_X4_29 fv_X4_has (by decide) (Nat.le_of_ble_eq_true rfl) (by decide) e2 ?_
  refine ab_if_eq (pc := 5) (tgt := 38) dX4_blockOf_5 (by decide) (fun c_5 => ?_) (fun c_5 => ?_)
  · refine ab_iconst (pc := 38) (v := -1) dX4_blockOf_38 (by decide) ?_
    refine xo_ir (pc := 39) dX4_blockOf_39 rfl rfl ?_
    (rw [FX4_blockOf]; (first | rw [if_pos c_5] | (dsimp only; rw [if_pos c_5])); (first | done | rfl | (dsimp only; done)))
  · replace hD := hD.2 c_5
    refine ab_lload_n (pc := 8) dX4_blockOf_8 rfl rfl ?_
    refine ab_lconst (pc := 9) (v := 0) dX4_blockOf_9 (by decide) ?_
    refine ab_lcmp (pc := 10) dX4_blockOf_10 ?_
    refine ab_if_lt (pc := 11) (tgt := 38) dX4_blockOf_11 (by decide) (fun c_11 => ?_) (fun c_11 => ?_)
    · refine ab_iconst (pc := 38) (v := -1) dX4_blockOf_38 (by decide) ?_
      refine xo_ir (pc := 39) dX4_blockOf_39 rfl rfl ?_
      (rw [FX4_blockOf]; (first | rw [if_neg c_5] | (dsimp only; rw [if_neg c_5])); (first | rw [if_pos c_11] | (dsimp only; rw [if_pos c_11])); (first | done | rfl | (dsimp only; done)))
    · replace hD := hD.2 c_11
      refine ab_lload_n (pc := 14) dX4_blockOf_14 rfl rfl ?_
      refine ab_ldc2 (pc := 15) dX4_blockOf_15 kl_X4_33 ?_
      refine ab_lcmp (pc := 18) dX4_blockOf_18 ?_
      refine ab_if_ge (pc := 19) (tgt := 38) dX4_blockOf_19 (by decide) (fun c_19 => ?_) (fun c_19 => ?_)
      · refine ab_iconst (pc := 38) (v := -1) dX4_blockOf_38 (by decide) ?_
        refine xo_ir (pc := 39) dX4_blockOf_39 rfl rfl ?_
        (rw [FX4_blockOf]; (first | rw [if_neg c_5] | (dsimp only; rw [if_neg c_5])); (first | rw [if_neg c_11] | (dsimp only; rw [if_neg c_11])); (first | rw [if_pos c_19] | (dsimp only; rw [if_pos c_19])); (first | done | rfl | (dsimp only; done)))
      · replace hD := hD.2 c_19
        refine ab_lload_n (pc := 22) dX4_blockOf_22 rfl rfl ?_
        refine ab_ldc2 (pc := 23) dX4_blockOf_23 kl_X4_35 ?_
        refine ab_lmul (pc := 26) dX4_blockOf_26 ?_
        refine ab_aload_n (pc := 27) dX4_blockOf_27 rfl rfl ?_
        refine xo_gr (pc := 28) (a := (350 : Nat)) dX4_blockOf_28 fl_X4_15 (by decide) rfl rfl ?_
        refine ab_iload_n (pc := 31) dX4_blockOf_31 rfl rfl ?_
        obtain ⟨o3, hD⟩ := hD
        refine ab_nat1 (ab_nat o3) ?_
        obtain ⟨o4, hD⟩ := hD
        refine xo_ild (pc := 32) dX4_blockOf_32 (by decide) rfl o4 (by decide) ?_
        refine ab_i2l (pc := 33) dX4_blockOf_33 ?_
        refine ab_lcmp (pc := 34) dX4_blockOf_34 ?_
        refine ab_if_lt (pc := 35) (tgt := 40) dX4_blockOf_35 (by decide) (fun c_35 => ?_) (fun c_35 => ?_)
        · replace hD := hD.1 c_35
          refine ab_aload_n (pc := 40) dX4_blockOf_40 rfl rfl ?_
          refine xo_gr (pc := 41) (a := (351 : Nat)) dX4_blockOf_41 fl_X4_19 (by decide) rfl rfl ?_
          refine ab_iload_n (pc := 44) dX4_blockOf_44 rfl rfl ?_
          refine ab_iconst (pc := 45) (v := nI 4) dX4_blockOf_45 (by decide) ?_
          refine ab_imul (pc := 46) dX4_blockOf_46 ?_
          refine ab_lload_n (pc := 47) dX4_blockOf_47 rfl rfl ?_
          refine ab_l2i (pc := 48) dX4_blockOf_48 ?_
          refine ab_iadd (pc := 49) dX4_blockOf_49 ?_
          obtain ⟨o5, hD⟩ := hD
          refine ab_nat1 (ab_nat o5) ?_
          obtain ⟨o6, hD⟩ := hD
          refine xo_ild (pc := 50) dX4_blockOf_50 (by decide) rfl o6 (by decide) ?_
          refine xo_ir (pc := 51) dX4_blockOf_51 rfl rfl ?_
          (rw [FX4_blockOf]; (first | rw [if_neg c_5] | (dsimp only; rw [if_neg c_5])); (first | rw [if_neg c_11] | (dsimp only; rw [if_neg c_11])); (first | rw [if_neg c_19] | (dsimp only; rw [if_neg c_19])); (first | rw [if_pos c_35] | (dsimp only; rw [if_pos c_35])); (first | done | rfl | (dsimp only; done)))
        · refine ab_iconst (pc := 38) (v := -1) dX4_blockOf_38 (by decide) ?_
          refine xo_ir (pc := 39) dX4_blockOf_39 rfl rfl ?_
          (rw [FX4_blockOf]; (first | rw [if_neg c_5] | (dsimp only; rw [if_neg c_5])); (first | rw [if_neg c_11] | (dsimp only; rw [if_neg c_11])); (first | rw [if_neg c_19] | (dsimp only; rw [if_neg c_19])); (first | rw [if_neg c_35] | (dsimp only; rw [if_neg c_35])); (first | done | rfl | (dsimp only; done)))
def FX4_make (f : Int32) (x : xD) : xD :=
  if (f) < 0 then
    x
  else
    if (nI (16)) ≤ (f) then
      x
    else
      if (x.1 349 ((f).toNatClampNeg)) = 0 then
        let x5 : xD := (ab_up x.1 349 ((f).toNatClampNeg) (nI (1)), x.2)
        let x8 : xD := (ab_up x5.1 350 ((f).toNatClampNeg) (nI (0)), x5.2)
        let x9 : xD := (ab_up x8.1 348 4 ((x8.1 348 4) + (nI (1))), x8.2)
        x9
      else
        x
def DX4_make (f : Int32) (x : xD) : Prop :=
  (((f) < 0) →
    True) ∧
  (¬ ((f) < 0) →
    (((nI (16)) ≤ (f)) →
      True) ∧
    (¬ ((nI (16)) ≤ (f)) →
      (¬ (f) < 0) ∧
      (((f).toNatClampNeg) < 16) ∧
      (((x.1 349 ((f).toNatClampNeg)) = 0) →
        (¬ (f) < 0) ∧
        (((f).toNatClampNeg) < 16) ∧
        let x5 : xD := (ab_up x.1 349 ((f).toNatClampNeg) (nI (1)), x.2)
        (¬ (f) < 0) ∧
        (((f).toNatClampNeg) < 16) ∧
        let x8 : xD := (ab_up x5.1 350 ((f).toNatClampNeg) (nI (0)), x5.2)
        let x9 : xD := (ab_up x8.1 348 4 ((x8.1 348 4) + (nI (1))), x8.2)
        True) ∧
      (¬ ((x.1 349 ((f).toNatClampNeg)) = 0) →
        True)))
set_option maxRecDepth 100000 in
set_option maxHeartbeats 4000000 in
theorem c_X4_make {tt : Prop} (f : Int32) (x : xD) (hD : DX4_make f x) : ab_Met mX4_make 0 0 0 tt [.ref (348 : Nat), .int (f)] (sX x) (xQv (FX4_make f x)) := by
  refine ab_Met.of rfl (Nat.le_of_ble_eq_true rfl) ?_
  show xV mX4_make 0 tt (xQv (FX4_make f x)) 0 [some (.ref (348 : Nat)), some (.int (f))] [] x
  refine ab_iload_n (pc := 0) dX4_make_0 rfl rfl ?_
  refine ab_if_lt (pc := 1) (tgt := 43) dX4_make_1 (by decide) (fun c_1 => ?_) (fun c_1 => ?_)
  · refine xo_vr (pc := 43) dX4_make_43 rfl ?_
    (rw [FX4_make]; (first | rw [if_pos c_1] | (dsimp only; rw [if_pos c_1])); (first | done | rfl | (dsimp only; done)))
  · replace hD := hD.2 c_1
    refine ab_iload_n (pc := 4) dX4_make_4 rfl rfl ?_
    refine ab_bipush (pc := 5) (v := nI 16) dX4_make_5 (by decide) ?_
    refine ab_icmp_ge (pc := 7) (tgt := 43) dX4_make_7 (by decide) (fun c_7 => ?_) (fun c_7 => ?_)
    · refine xo_vr (pc := 43) dX4_make_43 rfl ?_
      (rw [FX4_make]; (first | rw [if_neg c_1] | (dsimp only; rw [if_neg c_1])); (first | rw [if_pos c_7] | (dsimp only; rw [if_pos c_7])); (first | done | rfl | (dsimp only; done)))
    · replace hD := hD.2 c_7
      refine ab_aload_n (pc := 10) dX4_make_10 rfl rfl ?_
      refine xo_gr (pc := 11) (a := (349 : Nat)) dX4_make_11 fl_X4_9 (by decide) rfl rfl ?_
      refine ab_iload_n (pc := 14) dX4_make_14 rfl rfl ?_
      obtain ⟨o1, hD⟩ := hD
      refine ab_nat1 (ab_nat o1) ?_
      obtain ⟨o2, hD⟩ := hD
      refine xo_zld (pc := 15) dX4_make_15 (by decide) rfl o2 (by decide) ?_
      refine ab_if_ne (pc := 16) (tgt := 43) dX4_make_16 (by decide) (fun c_16 => ?_) (fun c_16 => ?_)
      · refine xo_vr (pc := 43) dX4_make_43 rfl ?_
        (rw [FX4_make]; (first | rw [if_neg c_1] | (dsimp only; rw [if_neg c_1])); (first | rw [if_neg c_7] | (dsimp only; rw [if_neg c_7])); (first | rw [if_neg c_16] | (dsimp only; rw [if_neg c_16])); (first | done | rfl | (dsimp only; done)))
      · replace hD := hD.1 c_16
        refine ab_aload_n (pc := 19) dX4_make_19 rfl rfl ?_
        refine xo_gr (pc := 20) (a := (349 : Nat)) dX4_make_20 fl_X4_9 (by decide) rfl rfl ?_
        refine ab_iload_n (pc := 23) dX4_make_23 rfl rfl ?_
        refine ab_iconst (pc := 24) (v := nI 1) dX4_make_24 (by decide) ?_
        obtain ⟨o3, hD⟩ := hD
        refine ab_nat3 (ab_nat o3) ?_
        obtain ⟨o4, hD⟩ := hD
        refine xo_zst (pc := 25) dX4_make_25 (by decide) rfl o4 (by decide) (Or.inr rfl) ?_
        refine ab_aload_n (pc := 26) dX4_make_26 rfl rfl ?_
        refine xo_gr (pc := 27) (a := (350 : Nat)) dX4_make_27 fl_X4_15 (by decide) rfl rfl ?_
        refine ab_iload_n (pc := 30) dX4_make_30 rfl rfl ?_
        refine ab_iconst (pc := 31) (v := nI 0) dX4_make_31 (by decide) ?_
        obtain ⟨o6, hD⟩ := hD
        refine ab_nat3 (ab_nat o6) ?_
        obtain ⟨o7, hD⟩ := hD
        refine xo_ist (pc := 32) dX4_make_32 (by decide) rfl o7 (by decide) ?_
        refine ab_aload_n (pc := 33) dX4_make_33 rfl rfl ?_
        refine ab_dup (pc := 34) dX4_make_34 rfl ?_
        refine xo_gi (pc := 35) dX4_make_35 fl_X4_37 (by decide) rfl ?_
        refine ab_iconst (pc := 38) (v := nI 1) dX4_make_38 (by decide) ?_
        refine ab_iadd (pc := 39) dX4_make_39 ?_
        refine xo_pi (pc := 40) dX4_make_40 fl_X4_37 (by decide) rfl (fun _ _ _ h => Or.inl (by cases h; rfl)) (ab_ok_i _) ?_
        refine xo_vr (pc := 43) dX4_make_43 rfl ?_
        (rw [FX4_make]; (first | rw [if_neg c_1] | (dsimp only; rw [if_neg c_1])); (first | rw [if_neg c_7] | (dsimp only; rw [if_neg c_7])); (first | rw [if_pos c_16] | (dsimp only; rw [if_pos c_16])); (first | done | rfl | (dsimp only; done)))
def FX4_release (b : Int32) (x : xD) : xD :=
  if (b) < 0 then
    x
  else
    if (nI (24)) ≤ (b) then
      x
    else
      if (x.1 352 ((b).toNatClampNeg)) = 0 then
        x
      else
        let x5 : xD := (ab_up x.1 352 ((b).toNatClampNeg) (nI (0)), x.2)
        let x6 : xD := (ab_up x5.1 348 5 ((x5.1 348 5) + (nI (1))), x5.2)
        x6
def DX4_release (b : Int32) (x : xD) : Prop :=
  (((b) < 0) →
    True) ∧
  (¬ ((b) < 0) →
    (((nI (24)) ≤ (b)) →
      True) ∧
    (¬ ((nI (24)) ≤ (b)) →
      (¬ (b) < 0) ∧
      (((b).toNatClampNeg) < 24) ∧
      (((x.1 352 ((b).toNatClampNeg)) = 0) →
        True) ∧
      (¬ ((x.1 352 ((b).toNatClampNeg)) = 0) →
        (¬ (b) < 0) ∧
        (((b).toNatClampNeg) < 24) ∧
        let x5 : xD := (ab_up x.1 352 ((b).toNatClampNeg) (nI (0)), x.2)
        let x6 : xD := (ab_up x5.1 348 5 ((x5.1 348 5) + (nI (1))), x5.2)
        True)))
set_option maxRecDepth 100000 in
set_option maxHeartbeats 4000000 in
theorem c_X4_release {tt : Prop} (b : Int32) (x : xD) (hD : DX4_release b x) : ab_Met mX4_release 0 0 0 tt [.ref (348 : Nat), .int (b)] (sX x) (xQv (FX4_release b x)) := by
  refine ab_Met.of rfl (Nat.le_of_ble_eq_true rfl) ?_
  show xV mX4_release 0 tt (xQv (FX4_release b x)) 0 [some (.ref (348 : Nat)), some (.int (b))] [] x
  refine ab_iload_n (pc := 0) dX4_release_0 rfl rfl ?_
  refine ab_if_lt (pc := 1) (tgt := 36) dX4_release_1 (by decide) (fun c_1 => ?_) (fun c_1 => ?_)
  · refine xo_vr (pc := 36) dX4_release_36 rfl ?_
    (rw [FX4_release]; (first | rw [if_pos c_1] | (dsimp only; rw [if_pos c_1])); (first | done | rfl | (dsimp only; done)))
  · replace hD := hD.2 c_1
    refine ab_iload_n (pc := 4) dX4_release_4 rfl rfl ?_
    refine ab_bipush (pc := 5) (v := nI 24) dX4_release_5 (by decide) ?_
    refine ab_icmp_ge (pc := 7) (tgt := 36) dX4_release_7 (by decide) (fun c_7 => ?_) (fun c_7 => ?_)
    · refine xo_vr (pc := 36) dX4_release_36 rfl ?_
      (rw [FX4_release]; (first | rw [if_neg c_1] | (dsimp only; rw [if_neg c_1])); (first | rw [if_pos c_7] | (dsimp only; rw [if_pos c_7])); (first | done | rfl | (dsimp only; done)))
    · replace hD := hD.2 c_7
      refine ab_aload_n (pc := 10) dX4_release_10 rfl rfl ?_
      refine xo_gr (pc := 11) (a := (352 : Nat)) dX4_release_11 fl_X4_22 (by decide) rfl rfl ?_
      refine ab_iload_n (pc := 14) dX4_release_14 rfl rfl ?_
      obtain ⟨o1, hD⟩ := hD
      refine ab_nat1 (ab_nat o1) ?_
      obtain ⟨o2, hD⟩ := hD
      refine xo_zld (pc := 15) dX4_release_15 (by decide) rfl o2 (by decide) ?_
      refine ab_if_eq (pc := 16) (tgt := 36) dX4_release_16 (by decide) (fun c_16 => ?_) (fun c_16 => ?_)
      · refine xo_vr (pc := 36) dX4_release_36 rfl ?_
        (rw [FX4_release]; (first | rw [if_neg c_1] | (dsimp only; rw [if_neg c_1])); (first | rw [if_neg c_7] | (dsimp only; rw [if_neg c_7])); (first | rw [if_pos c_16] | (dsimp only; rw [if_pos c_16])); (first | done | rfl | (dsimp only; done)))
      · replace hD := hD.2 c_16
        refine ab_aload_n (pc := 19) dX4_release_19 rfl rfl ?_
        refine xo_gr (pc := 20) (a := (352 : Nat)) dX4_release_20 fl_X4_22 (by decide) rfl rfl ?_
        refine ab_iload_n (pc := 23) dX4_release_23 rfl rfl ?_
        refine ab_iconst (pc := 24) (v := nI 0) dX4_release_24 (by decide) ?_
        obtain ⟨o3, hD⟩ := hD
        refine ab_nat3 (ab_nat o3) ?_
        obtain ⟨o4, hD⟩ := hD
        refine xo_zst (pc := 25) dX4_release_25 (by decide) rfl o4 (by decide) (Or.inl rfl) ?_
        refine ab_aload_n (pc := 26) dX4_release_26 rfl rfl ?_
        refine ab_dup (pc := 27) dX4_release_27 rfl ?_
        refine xo_gi (pc := 28) dX4_release_28 fl_X4_25 (by decide) rfl ?_
        refine ab_iconst (pc := 31) (v := nI 1) dX4_release_31 (by decide) ?_
        refine ab_iadd (pc := 32) dX4_release_32 ?_
        refine xo_pi (pc := 33) dX4_release_33 fl_X4_25 (by decide) rfl (fun _ _ _ h => Or.inl (by cases h; rfl)) (ab_ok_i _) ?_
        refine xo_vr (pc := 36) dX4_release_36 rfl ?_
        (rw [FX4_release]; (first | rw [if_neg c_1] | (dsimp only; rw [if_neg c_1])); (first | rw [if_neg c_7] | (dsimp only; rw [if_neg c_7])); (first | rw [if_neg c_16] | (dsimp only; rw [if_neg c_16])); (first | done | rfl | (dsimp only; done)))
def FX4_discard_11 : Nat → Int32 → Nat → xD → xD
  | 0, _, _, x => x
  | n + 1, f, a2, x =>
    if 4 ≤ a2 then
      let x6 : xD := (ab_up x.1 349 ((f).toNatClampNeg) (nI (0)), x.2)
      let x7 : xD := (ab_up x6.1 348 4 ((x6.1 348 4) - (nI (1))), x6.2)
      x7
    else
      if (x.1 350 ((f).toNatClampNeg)) ≤ (nI (a2 * 8)) then
        let x12 : xD := (ab_up x.1 349 ((f).toNatClampNeg) (nI (0)), x.2)
        let x13 : xD := (ab_up x12.1 348 4 ((x12.1 348 4) - (nI (1))), x12.2)
        x13
      else
        let z18 := FX4_release (x.1 351 ((((f) * (nI (4))) + (nI (a2))).toNatClampNeg)) x
        FX4_discard_11 n f (a2 + 1) z18
def DX4_discard_11 : Nat → Int32 → Nat → xD → Prop
  | 0, _, _, _ => False
  | n + 1, f, a2, x =>
    (a2 < 2147483648) ∧
    ((4 ≤ a2) →
      (¬ (f) < 0) ∧
      (((f).toNatClampNeg) < 16) ∧
      let x6 : xD := (ab_up x.1 349 ((f).toNatClampNeg) (nI (0)), x.2)
      let x7 : xD := (ab_up x6.1 348 4 ((x6.1 348 4) - (nI (1))), x6.2)
      True) ∧
    (¬ (4 ≤ a2) →
      (¬ (f) < 0) ∧
      (((f).toNatClampNeg) < 16) ∧
      (((x.1 350 ((f).toNatClampNeg)) ≤ (nI (a2 * 8))) →
        (¬ (f) < 0) ∧
        (((f).toNatClampNeg) < 16) ∧
        let x12 : xD := (ab_up x.1 349 ((f).toNatClampNeg) (nI (0)), x.2)
        let x13 : xD := (ab_up x12.1 348 4 ((x12.1 348 4) - (nI (1))), x12.2)
        True) ∧
      (¬ ((x.1 350 ((f).toNatClampNeg)) ≤ (nI (a2 * 8))) →
        (¬ (((f) * (nI (4))) + (nI (a2))) < 0) ∧
        (((((f) * (nI (4))) + (nI (a2))).toNatClampNeg) < 64) ∧
        (DX4_release (x.1 351 ((((f) * (nI (4))) + (nI (a2))).toNatClampNeg)) x) ∧
        let z18 := FX4_release (x.1 351 ((((f) * (nI (4))) + (nI (a2))).toNatClampNeg)) x
        DX4_discard_11 n f (a2 + 1) z18))
set_option maxRecDepth 100000 in
set_option maxHeartbeats 4000000 in
theorem w_X4_discard_11 {tt : Prop} : ∀ (n : Nat) (f : Int32) (a2 : Nat) (x : xD) (hD : DX4_discard_11 n f a2 x), xV mX4_discard 1 tt (xQv (FX4_discard_11 n f a2 x)) 11 [some (.ref (348 : Nat)), some (.int (f)), some (.int (nI (a2)))] [] x := by
  intro n
  induction n with
  | zero => intros; rename_i hD; exact hD.elim
  | succ n ih =>
    intro f a2 x hD
    refine ab_iload_n (pc := 11) dX4_discard_11 rfl rfl ?_
    refine ab_iconst (pc := 12) (v := nI 4) dX4_discard_12 (by decide) ?_
    obtain ⟨o3, hD⟩ := hD
    refine ab_icmp_geN (pc := 13) (tgt := 49) dX4_discard_13 (by decide) o3 (by decide) (fun c_13 => ?_) (fun c_13 => ?_)
    · replace hD := hD.1 c_13
      refine ab_aload_n (pc := 49) dX4_discard_49 rfl rfl ?_
      refine xo_gr (pc := 50) (a := (349 : Nat)) dX4_discard_50 fl_X4_9 (by decide) rfl rfl ?_
      refine ab_iload_n (pc := 53) dX4_discard_53 rfl rfl ?_
      refine ab_iconst (pc := 54) (v := nI 0) dX4_discard_54 (by decide) ?_
      obtain ⟨o4, hD⟩ := hD
      refine ab_nat3 (ab_nat o4) ?_
      obtain ⟨o5, hD⟩ := hD
      refine xo_zst (pc := 55) dX4_discard_55 (by decide) rfl o5 (by decide) (Or.inl rfl) ?_
      refine ab_aload_n (pc := 56) dX4_discard_56 rfl rfl ?_
      refine ab_dup (pc := 57) dX4_discard_57 rfl ?_
      refine xo_gi (pc := 58) dX4_discard_58 fl_X4_37 (by decide) rfl ?_
      refine ab_iconst (pc := 61) (v := nI 1) dX4_discard_61 (by decide) ?_
      refine ab_isub (pc := 62) dX4_discard_62 ?_
      refine xo_pi (pc := 63) dX4_discard_63 fl_X4_37 (by decide) rfl (fun _ _ _ h => Or.inl (by cases h; rfl)) (ab_ok_i _) ?_
      refine xo_vr (pc := 66) dX4_discard_66 rfl ?_
      (rw [FX4_discard_11]; (first | rw [if_pos c_13] | (dsimp only; rw [if_pos c_13])); (first | done | rfl | (dsimp only; done)))
    · replace hD := hD.2 c_13
      refine ab_iload_n (pc := 16) dX4_discard_16 rfl rfl ?_
      refine ab_bipush (pc := 17) (v := nI 8) dX4_discard_17 (by decide) ?_
      refine ab_imulN (pc := 19) dX4_discard_19 ?_
      refine ab_aload_n (pc := 20) dX4_discard_20 rfl rfl ?_
      refine xo_gr (pc := 21) (a := (350 : Nat)) dX4_discard_21 fl_X4_15 (by decide) rfl rfl ?_
      refine ab_iload_n (pc := 24) dX4_discard_24 rfl rfl ?_
      obtain ⟨o8, hD⟩ := hD
      refine ab_nat1 (ab_nat o8) ?_
      obtain ⟨o9, hD⟩ := hD
      refine xo_ild (pc := 25) dX4_discard_25 (by decide) rfl o9 (by decide) ?_
      refine ab_icmp_ge (pc := 26) (tgt := 49) dX4_discard_26 (by decide) (fun c_26 => ?_) (fun c_26 => ?_)
      · replace hD := hD.1 c_26
        refine ab_aload_n (pc := 49) dX4_discard_49 rfl rfl ?_
        refine xo_gr (pc := 50) (a := (349 : Nat)) dX4_discard_50 fl_X4_9 (by decide) rfl rfl ?_
        refine ab_iload_n (pc := 53) dX4_discard_53 rfl rfl ?_
        refine ab_iconst (pc := 54) (v := nI 0) dX4_discard_54 (by decide) ?_
        obtain ⟨o10, hD⟩ := hD
        refine ab_nat3 (ab_nat o10) ?_
        obtain ⟨o11, hD⟩ := hD
        refine xo_zst (pc := 55) dX4_discard_55 (by decide) rfl o11 (by decide) (Or.inl rfl) ?_
        refine ab_aload_n (pc := 56) dX4_discard_56 rfl rfl ?_
        refine ab_dup (pc := 57) dX4_discard_57 rfl ?_
        refine xo_gi (pc := 58) dX4_discard_58 fl_X4_37 (by decide) rfl ?_
        refine ab_iconst (pc := 61) (v := nI 1) dX4_discard_61 (by decide) ?_
        refine ab_isub (pc := 62) dX4_discard_62 ?_
        refine xo_pi (pc := 63) dX4_discard_63 fl_X4_37 (by decide) rfl (fun _ _ _ h => Or.inl (by cases h; rfl)) (ab_ok_i _) ?_
        refine xo_vr (pc := 66) dX4_discard_66 rfl ?_
        (rw [FX4_discard_11]; (first | rw [if_neg c_13] | (dsimp only; rw [if_neg c_13])); (first | rw [if_pos c_26] | (dsimp only; rw [if_pos c_26])); (first | done | rfl | (dsimp only; done)))
      · replace hD := hD.2 c_26
        refine ab_aload_n (pc := 29) dX4_discard_29 rfl rfl ?_
        refine ab_aload_n (pc := 30) dX4_discard_30 rfl rfl ?_
        refine xo_gr (pc := 31) (a := (351 : Nat)) dX4_discard_31 fl_X4_19 (by decide) rfl rfl ?_
        refine ab_iload_n (pc := 34) dX4_discard_34 rfl rfl ?_
        refine ab_iconst (pc := 35) (v := nI 4) dX4_discard_35 (by decide) ?_
        refine ab_imul (pc := 36) dX4_discard_36 ?_
        refine ab_iload_n (pc := 37) dX4_discard_37 rfl rfl ?_
        refine ab_iadd (pc := 38) dX4_discard_38 ?_
        obtain ⟨o14, hD⟩ := hD
        refine ab_nat1 (ab_nat o14) ?_
        obtain ⟨o15, hD⟩ := hD
        refine xo_ild (pc := 39) dX4_discard_39 (by decide) rfl o15 (by decide) ?_
        obtain ⟨o16, hD⟩ := hD
        have e17 := c_X4_release (tt := tt) _ _ o16
        refine xo_invv (N := mX4_release) (pc := 40) (d' := 0) (av := [_]) dX4_discard_40 ml_X4_40 fv_X4_release (by decide) (Nat.le_of_ble_eq_true rfl) (by decide) e17 ?_
        refine ab_iinc (pc := 43) dX4_discard_43 rfl (ab_inc _) (Nat.le_of_ble_eq_true rfl) rfl ?_
        refine ab_goto (pc := 46) (tgt := 11) dX4_discard_46 (by decide) ?_
        refine xo_eqv ?_ (ih _ _ _ hD)
        (rw [FX4_discard_11]; (first | rw [if_neg c_13] | (dsimp only; rw [if_neg c_13])); (first | rw [if_neg c_26] | (dsimp only; rw [if_neg c_26])); (first | done | rfl | (dsimp only; done)))
def FX4_discard (f : Int32) (x : xD) : xD :=
  if (FX4_has (f) x) = 0 then
    x
  else
    FX4_discard_11 5 f 0 x
def DX4_discard (f : Int32) (x : xD) : Prop :=
  (DX4_has (f) x) ∧
  (((FX4_has (f) x) = 0) →
    True) ∧
  (¬ ((FX4_has (f) x) = 0) →
    DX4_discard_11 5 f 0 x)
set_option maxRecDepth 100000 in
set_option maxHeartbeats 4000000 in
theorem c_X4_discard {tt : Prop} (f : Int32) (x : xD) (hD : DX4_discard f x) : ab_Met mX4_discard 1 0 0 tt [.ref (348 : Nat), .int (f)] (sX x) (xQv (FX4_discard f x)) := by
  refine ab_Met.of rfl (Nat.le_of_ble_eq_true rfl) ?_
  show xV mX4_discard 1 tt (xQv (FX4_discard f x)) 0 [some (.ref (348 : Nat)), some (.int (f)), none] [] x
  refine ab_aload_n (pc := 0) dX4_discard_0 rfl rfl ?_
  refine ab_iload_n (pc := 1) dX4_discard_1 rfl rfl ?_
  obtain ⟨o1, hD⟩ := hD
  have e2 := c_X4_has (tt := tt) _ _ o1
  refine xo_invr (N := mX4_has) (pc := 2) (d' := 0) (av := [_]) dX4_discard_2 ml_X4_29 fv_X4_has (by decide) (Nat.le_of_ble_eq_true rfl) (by decide) e2 ?_
  refine ab_if_ne (pc := 5) (tgt := 9) dX4_discard_5 (by decide) (fun c_5 => ?_) (fun c_5 => ?_)
  · replace hD := hD.2 c_5
    refine ab_iconst (pc := 9) (v := nI 0) dX4_discard_9 (by decide) ?_
    refine ab_istore_n (pc := 10) dX4_discard_10 rfl (Nat.le_of_ble_eq_true rfl) rfl ?_
    refine xo_eqv ?_ (w_X4_discard_11 5 _ _ _ hD)
    (rw [FX4_discard]; (first | rw [if_neg c_5] | (dsimp only; rw [if_neg c_5])); (first | done | rfl | (dsimp only; done)))
  · refine xo_vr (pc := 8) dX4_discard_8 rfl ?_
    (rw [FX4_discard]; (first | rw [if_pos c_5] | (dsimp only; rw [if_pos c_5])); (first | done | rfl | (dsimp only; done)))
def FX4_needsBlock (f : Int32) (p : Int32) (x : xD) : Int32 :=
  if (FX4_has (f) x) = 0 then
    (nI (0))
  else
    if (p) = (x.1 350 ((f).toNatClampNeg)) then
      if ((p) - (p) / (nI (8)) * (nI (8))) = 0 then
        (nI (1))
      else
        (nI (0))
    else
      (nI (0))
def DX4_needsBlock (f : Int32) (p : Int32) (x : xD) : Prop :=
  (DX4_has (f) x) ∧
  (((FX4_has (f) x) = 0) →
    True) ∧
  (¬ ((FX4_has (f) x) = 0) →
    (¬ (f) < 0) ∧
    (((f).toNatClampNeg) < 16) ∧
    True)
set_option maxRecDepth 100000 in
set_option maxHeartbeats 4000000 in
theorem c_X4_needsBlock {tt : Prop} (f : Int32) (p : Int32) (x : xD) (hD : DX4_needsBlock f p x) : ab_Met mX4_needsBlock 1 0 0 tt [.ref (348 : Nat), .int (f), .int (p)] (sX x) (xQi (FX4_needsBlock f p x, x)) := by
  refine ab_Met.of rfl (Nat.le_of_ble_eq_true rfl) ?_
  show xV mX4_needsBlock 1 tt (xQi (FX4_needsBlock f p x, x)) 0 [some (.ref (348 : Nat)), some (.int (f)), some (.int (p))] [] x
  refine ab_aload_n (pc := 0) dX4_needsBlock_0 rfl rfl ?_
  refine ab_iload_n (pc := 1) dX4_needsBlock_1 rfl rfl ?_
  obtain ⟨o1, hD⟩ := hD
  have e2 := c_X4_has (tt := tt) _ _ o1
  refine xo_invr (N := mX4_has) (pc := 2) (d' := 0) (av := [_]) dX4_needsBlock_2 ml_X4_29 fv_X4_has (by decide) (Nat.le_of_ble_eq_true rfl) (by decide) e2 ?_
  refine ab_if_eq (pc := 5) (tgt := 29) dX4_needsBlock_5 (by decide) (fun c_5 => ?_) (fun c_5 => ?_)
  · refine ab_iconst (pc := 29) (v := nI 0) dX4_needsBlock_29 (by decide) ?_
    refine xo_ir (pc := 30) dX4_needsBlock_30 rfl (ab_nb (Or.inl rfl)) ?_
    (rw [FX4_needsBlock]; (first | rw [if_pos c_5] | (dsimp only; rw [if_pos c_5])); (first | done | rfl | (dsimp only; done)))
  · replace hD := hD.2 c_5
    refine ab_iload_n (pc := 8) dX4_needsBlock_8 rfl rfl ?_
    refine ab_aload_n (pc := 9) dX4_needsBlock_9 rfl rfl ?_
    refine xo_gr (pc := 10) (a := (350 : Nat)) dX4_needsBlock_10 fl_X4_15 (by decide) rfl rfl ?_
    refine ab_iload_n (pc := 13) dX4_needsBlock_13 rfl rfl ?_
    obtain ⟨o3, hD⟩ := hD
    refine ab_nat1 (ab_nat o3) ?_
    obtain ⟨o4, hD⟩ := hD
    refine xo_ild (pc := 14) dX4_needsBlock_14 (by decide) rfl o4 (by decide) ?_
    refine ab_icmp_ne (pc := 15) (tgt := 29) dX4_needsBlock_15 (by decide) (fun c_15 => ?_) (fun c_15 => ?_)
    · refine ab_iconst (pc := 29) (v := nI 0) dX4_needsBlock_29 (by decide) ?_
      refine xo_ir (pc := 30) dX4_needsBlock_30 rfl (ab_nb (Or.inl rfl)) ?_
      (rw [FX4_needsBlock]; (first | rw [if_neg c_5] | (dsimp only; rw [if_neg c_5])); (first | rw [if_neg c_15] | (dsimp only; rw [if_neg c_15])); (first | done | rfl | (dsimp only; done)))
    · refine ab_iload_n (pc := 18) dX4_needsBlock_18 rfl rfl ?_
      refine ab_bipush (pc := 19) (v := nI 8) dX4_needsBlock_19 (by decide) ?_
      refine ab_irem (pc := 21) dX4_needsBlock_21 (by decide) ?_
      refine ab_if_ne (pc := 22) (tgt := 29) dX4_needsBlock_22 (by decide) (fun c_22 => ?_) (fun c_22 => ?_)
      · refine ab_iconst (pc := 29) (v := nI 0) dX4_needsBlock_29 (by decide) ?_
        refine xo_ir (pc := 30) dX4_needsBlock_30 rfl (ab_nb (Or.inl rfl)) ?_
        (rw [FX4_needsBlock]; (first | rw [if_neg c_5] | (dsimp only; rw [if_neg c_5])); (first | rw [if_pos c_15] | (dsimp only; rw [if_pos c_15])); (first | rw [if_neg c_22] | (dsimp only; rw [if_neg c_22])); (first | done | rfl | (dsimp only; done)))
      · refine ab_iconst (pc := 25) (v := nI 1) dX4_needsBlock_25 (by decide) ?_
        refine ab_goto (pc := 26) (tgt := 30) dX4_needsBlock_26 (by decide) ?_
        refine xo_ir (pc := 30) dX4_needsBlock_30 rfl (ab_nb (Or.inr rfl)) ?_
        (rw [FX4_needsBlock]; (first | rw [if_neg c_5] | (dsimp only; rw [if_neg c_5])); (first | rw [if_pos c_15] | (dsimp only; rw [if_pos c_15])); (first | rw [if_pos c_22] | (dsimp only; rw [if_pos c_22])); (first | done | rfl | (dsimp only; done)))
def FX4_takeBlock_22 : Nat → Int32 → Int32 → Nat → xD → Int32 × xD
  | 0, _, _, _, x => (0, x)
  | n + 1, f, p, a3, x =>
    if 24 ≤ a3 then
      ((-1), x)
    else
      if (x.1 352 a3) = 0 then
        let x6 : xD := (ab_up x.1 352 a3 (nI (1)), x.2)
        let x7 : xD := (ab_up x6.1 348 5 ((x6.1 348 5) - (nI (1))), x6.2)
        let x10 : xD := (ab_up x7.1 351 ((((f) * (nI (4))) + ((p) / (nI (8)))).toNatClampNeg) (nI (a3)), x7.2)
        ((nI (a3)), x10)
      else
        FX4_takeBlock_22 n f p (a3 + 1) x
def DX4_takeBlock_22 : Nat → Int32 → Int32 → Nat → xD → Prop
  | 0, _, _, _, _ => False
  | n + 1, f, p, a3, x =>
    (a3 < 2147483648) ∧
    ((24 ≤ a3) →
      True) ∧
    (¬ (24 ≤ a3) →
      (a3 < 24) ∧
      (((x.1 352 a3) = 0) →
        (a3 < 24) ∧
        let x6 : xD := (ab_up x.1 352 a3 (nI (1)), x.2)
        let x7 : xD := (ab_up x6.1 348 5 ((x6.1 348 5) - (nI (1))), x6.2)
        (¬ (((f) * (nI (4))) + ((p) / (nI (8)))) < 0) ∧
        (((((f) * (nI (4))) + ((p) / (nI (8)))).toNatClampNeg) < 64) ∧
        let x10 : xD := (ab_up x7.1 351 ((((f) * (nI (4))) + ((p) / (nI (8)))).toNatClampNeg) (nI (a3)), x7.2)
        True) ∧
      (¬ ((x.1 352 a3) = 0) →
        DX4_takeBlock_22 n f p (a3 + 1) x))
set_option maxRecDepth 100000 in
set_option maxHeartbeats 4000000 in
theorem w_X4_takeBlock_22 {tt : Prop} : ∀ (n : Nat) (f : Int32) (p : Int32) (a3 : Nat) (x : xD) (hD : DX4_takeBlock_22 n f p a3 x), xV mX4_takeBlock 1 tt (xQi (FX4_takeBlock_22 n f p a3 x)) 22 [some (.ref (348 : Nat)), some (.int (f)), some (.int (p)), some (.int (nI (a3)))] [] x := by
  intro n
  induction n with
  | zero => intros; rename_i hD; exact hD.elim
  | succ n ih =>
    intro f p a3 x hD
    refine ab_iload_n (pc := 22) dX4_takeBlock_22 rfl rfl ?_
    refine ab_bipush (pc := 23) (v := nI 24) dX4_takeBlock_23 (by decide) ?_
    obtain ⟨o3, hD⟩ := hD
    refine ab_icmp_geN (pc := 25) (tgt := 76) dX4_takeBlock_25 (by decide) o3 (by decide) (fun c_25 => ?_) (fun c_25 => ?_)
    · refine ab_iconst (pc := 76) (v := -1) dX4_takeBlock_76 (by decide) ?_
      refine xo_ir (pc := 77) dX4_takeBlock_77 rfl rfl ?_
      (rw [FX4_takeBlock_22]; (first | rw [if_pos c_25] | (dsimp only; rw [if_pos c_25])); (first | done | rfl | (dsimp only; done)))
    · replace hD := hD.2 c_25
      refine ab_aload_n (pc := 28) dX4_takeBlock_28 rfl rfl ?_
      refine xo_gr (pc := 29) (a := (352 : Nat)) dX4_takeBlock_29 fl_X4_22 (by decide) rfl rfl ?_
      refine ab_iload_n (pc := 32) dX4_takeBlock_32 rfl rfl ?_
      obtain ⟨o4, hD⟩ := hD
      refine xo_zld (pc := 33) dX4_takeBlock_33 (by decide) rfl o4 (by decide) ?_
      refine ab_if_ne (pc := 34) (tgt := 70) dX4_takeBlock_34 (by decide) (fun c_34 => ?_) (fun c_34 => ?_)
      · replace hD := hD.2 c_34
        refine ab_iinc (pc := 70) dX4_takeBlock_70 rfl (ab_inc _) (Nat.le_of_ble_eq_true rfl) rfl ?_
        refine ab_goto (pc := 73) (tgt := 22) dX4_takeBlock_73 (by decide) ?_
        refine xo_eqi ?_ (ih _ _ _ _ hD)
        (rw [FX4_takeBlock_22]; (first | rw [if_neg c_25] | (dsimp only; rw [if_neg c_25])); (first | rw [if_neg c_34] | (dsimp only; rw [if_neg c_34])); (first | done | rfl | (dsimp only; done)))
      · replace hD := hD.1 c_34
        refine ab_aload_n (pc := 37) dX4_takeBlock_37 rfl rfl ?_
        refine xo_gr (pc := 38) (a := (352 : Nat)) dX4_takeBlock_38 fl_X4_22 (by decide) rfl rfl ?_
        refine ab_iload_n (pc := 41) dX4_takeBlock_41 rfl rfl ?_
        refine ab_iconst (pc := 42) (v := nI 1) dX4_takeBlock_42 (by decide) ?_
        obtain ⟨o5, hD⟩ := hD
        refine xo_zst (pc := 43) dX4_takeBlock_43 (by decide) rfl o5 (by decide) (Or.inr rfl) ?_
        refine ab_aload_n (pc := 44) dX4_takeBlock_44 rfl rfl ?_
        refine ab_dup (pc := 45) dX4_takeBlock_45 rfl ?_
        refine xo_gi (pc := 46) dX4_takeBlock_46 fl_X4_25 (by decide) rfl ?_
        refine ab_iconst (pc := 49) (v := nI 1) dX4_takeBlock_49 (by decide) ?_
        refine ab_isub (pc := 50) dX4_takeBlock_50 ?_
        refine xo_pi (pc := 51) dX4_takeBlock_51 fl_X4_25 (by decide) rfl (fun _ _ _ h => Or.inl (by cases h; rfl)) (ab_ok_i _) ?_
        refine ab_aload_n (pc := 54) dX4_takeBlock_54 rfl rfl ?_
        refine xo_gr (pc := 55) (a := (351 : Nat)) dX4_takeBlock_55 fl_X4_19 (by decide) rfl rfl ?_
        refine ab_iload_n (pc := 58) dX4_takeBlock_58 rfl rfl ?_
        refine ab_iconst (pc := 59) (v := nI 4) dX4_takeBlock_59 (by decide) ?_
        refine ab_imul (pc := 60) dX4_takeBlock_60 ?_
        refine ab_iload_n (pc := 61) dX4_takeBlock_61 rfl rfl ?_
        refine ab_bipush (pc := 62) (v := nI 8) dX4_takeBlock_62 (by decide) ?_
        refine ab_idiv (pc := 64) dX4_takeBlock_64 (by decide) ?_
        refine ab_iadd (pc := 65) dX4_takeBlock_65 ?_
        refine ab_iload_n (pc := 66) dX4_takeBlock_66 rfl rfl ?_
        obtain ⟨o8, hD⟩ := hD
        refine ab_nat3 (ab_nat o8) ?_
        obtain ⟨o9, hD⟩ := hD
        refine xo_ist (pc := 67) dX4_takeBlock_67 (by decide) rfl o9 (by decide) ?_
        refine ab_iload_n (pc := 68) dX4_takeBlock_68 rfl rfl ?_
        refine xo_ir (pc := 69) dX4_takeBlock_69 rfl rfl ?_
        (rw [FX4_takeBlock_22]; (first | rw [if_neg c_25] | (dsimp only; rw [if_neg c_25])); (first | rw [if_pos c_34] | (dsimp only; rw [if_pos c_34])); (first | done | rfl | (dsimp only; done)))
def FX4_takeBlock (f : Int32) (p : Int32) (x : xD) : Int32 × xD :=
  if (FX4_has (f) x) = 0 then
    ((-1), x)
  else
    if (p) < 0 then
      ((-1), x)
    else
      if (p) < (nI (32)) then
        FX4_takeBlock_22 25 f p 0 x
      else
        ((-1), x)
def DX4_takeBlock (f : Int32) (p : Int32) (x : xD) : Prop :=
  (DX4_has (f) x) ∧
  (((FX4_has (f) x) = 0) →
    True) ∧
  (¬ ((FX4_has (f) x) = 0) →
    (((p) < 0) →
      True) ∧
    (¬ ((p) < 0) →
      (((p) < (nI (32))) →
        DX4_takeBlock_22 25 f p 0 x) ∧
      (¬ ((p) < (nI (32))) →
        True)))
set_option maxRecDepth 100000 in
set_option maxHeartbeats 4000000 in
theorem c_X4_takeBlock {tt : Prop} (f : Int32) (p : Int32) (x : xD) (hD : DX4_takeBlock f p x) : ab_Met mX4_takeBlock 1 0 0 tt [.ref (348 : Nat), .int (f), .int (p)] (sX x) (xQi (FX4_takeBlock f p x)) := by
  refine ab_Met.of rfl (Nat.le_of_ble_eq_true rfl) ?_
  show xV mX4_takeBlock 1 tt (xQi (FX4_takeBlock f p x)) 0 [some (.ref (348 : Nat)), some (.int (f)), some (.int (p)), none] [] x
  refine ab_aload_n (pc := 0) dX4_takeBlock_0 rfl rfl ?_
  refine ab_iload_n (pc := 1) dX4_takeBlock_1 rfl rfl ?_
  obtain ⟨o1, hD⟩ := hD
  have e2 := c_X4_has (tt := tt) _ _ o1
  refine xo_invr (N := mX4_has) (pc := 2) (d' := 0) (av := [_]) dX4_takeBlock_2 ml_X4_29 fv_X4_has (by decide) (Nat.le_of_ble_eq_true rfl) (by decide) e2 ?_
  refine ab_if_eq (pc := 5) (tgt := 18) dX4_takeBlock_5 (by decide) (fun c_5 => ?_) (fun c_5 => ?_)
  · refine ab_iconst (pc := 18) (v := -1) dX4_takeBlock_18 (by decide) ?_
    refine xo_ir (pc := 19) dX4_takeBlock_19 rfl rfl ?_
    (rw [FX4_takeBlock]; (first | rw [if_pos c_5] | (dsimp only; rw [if_pos c_5])); (first | done | rfl | (dsimp only; done)))
  · replace hD := hD.2 c_5
    refine ab_iload_n (pc := 8) dX4_takeBlock_8 rfl rfl ?_
    refine ab_if_lt (pc := 9) (tgt := 18) dX4_takeBlock_9 (by decide) (fun c_9 => ?_) (fun c_9 => ?_)
    · refine ab_iconst (pc := 18) (v := -1) dX4_takeBlock_18 (by decide) ?_
      refine xo_ir (pc := 19) dX4_takeBlock_19 rfl rfl ?_
      (rw [FX4_takeBlock]; (first | rw [if_neg c_5] | (dsimp only; rw [if_neg c_5])); (first | rw [if_pos c_9] | (dsimp only; rw [if_pos c_9])); (first | done | rfl | (dsimp only; done)))
    · replace hD := hD.2 c_9
      refine ab_iload_n (pc := 12) dX4_takeBlock_12 rfl rfl ?_
      refine ab_bipush (pc := 13) (v := nI 32) dX4_takeBlock_13 (by decide) ?_
      refine ab_icmp_lt (pc := 15) (tgt := 20) dX4_takeBlock_15 (by decide) (fun c_15 => ?_) (fun c_15 => ?_)
      · replace hD := hD.1 c_15
        refine ab_iconst (pc := 20) (v := nI 0) dX4_takeBlock_20 (by decide) ?_
        refine ab_istore_n (pc := 21) dX4_takeBlock_21 rfl (Nat.le_of_ble_eq_true rfl) rfl ?_
        refine xo_eqi ?_ (w_X4_takeBlock_22 25 _ _ _ _ hD)
        (rw [FX4_takeBlock]; (first | rw [if_neg c_5] | (dsimp only; rw [if_neg c_5])); (first | rw [if_neg c_9] | (dsimp only; rw [if_neg c_9])); (first | rw [if_pos c_15] | (dsimp only; rw [if_pos c_15])); (first | done | rfl | (dsimp only; done)))
      · refine ab_iconst (pc := 18) (v := -1) dX4_takeBlock_18 (by decide) ?_
        refine xo_ir (pc := 19) dX4_takeBlock_19 rfl rfl ?_
        (rw [FX4_takeBlock]; (first | rw [if_neg c_5] | (dsimp only; rw [if_neg c_5])); (first | rw [if_neg c_9] | (dsimp only; rw [if_neg c_9])); (first | rw [if_neg c_15] | (dsimp only; rw [if_neg c_15])); (first | done | rfl | (dsimp only; done)))
def FX4_growOver (f : Int32) (p : Int32) (x : xD) : xD :=
  if (FX4_has (f) x) = 0 then
    x
  else
    if (p) = (x.1 350 ((f).toNatClampNeg)) then
      if (nI (32)) ≤ (p) then
        x
      else
        let x7 : xD := (ab_up x.1 350 ((f).toNatClampNeg) ((p) + (nI (1))), x.2)
        x7
    else
      x
def DX4_growOver (f : Int32) (p : Int32) (x : xD) : Prop :=
  (DX4_has (f) x) ∧
  (((FX4_has (f) x) = 0) →
    True) ∧
  (¬ ((FX4_has (f) x) = 0) →
    (¬ (f) < 0) ∧
    (((f).toNatClampNeg) < 16) ∧
    (((p) = (x.1 350 ((f).toNatClampNeg))) →
      (((nI (32)) ≤ (p)) →
        True) ∧
      (¬ ((nI (32)) ≤ (p)) →
        (¬ (f) < 0) ∧
        (((f).toNatClampNeg) < 16) ∧
        let x7 : xD := (ab_up x.1 350 ((f).toNatClampNeg) ((p) + (nI (1))), x.2)
        True)) ∧
    (¬ ((p) = (x.1 350 ((f).toNatClampNeg))) →
      True))
set_option maxRecDepth 100000 in
set_option maxHeartbeats 4000000 in
theorem c_X4_growOver {tt : Prop} (f : Int32) (p : Int32) (x : xD) (hD : DX4_growOver f p x) : ab_Met mX4_growOver 1 0 0 tt [.ref (348 : Nat), .int (f), .int (p)] (sX x) (xQv (FX4_growOver f p x)) := by
  refine ab_Met.of rfl (Nat.le_of_ble_eq_true rfl) ?_
  show xV mX4_growOver 1 tt (xQv (FX4_growOver f p x)) 0 [some (.ref (348 : Nat)), some (.int (f)), some (.int (p))] [] x
  refine ab_aload_n (pc := 0) dX4_growOver_0 rfl rfl ?_
  refine ab_iload_n (pc := 1) dX4_growOver_1 rfl rfl ?_
  obtain ⟨o1, hD⟩ := hD
  have e2 := c_X4_has (tt := tt) _ _ o1
  refine xo_invr (N := mX4_has) (pc := 2) (d' := 0) (av := [_]) dX4_growOver_2 ml_X4_29 fv_X4_has (by decide) (Nat.le_of_ble_eq_true rfl) (by decide) e2 ?_
  refine ab_if_eq (pc := 5) (tgt := 33) dX4_growOver_5 (by decide) (fun c_5 => ?_) (fun c_5 => ?_)
  · refine xo_vr (pc := 33) dX4_growOver_33 rfl ?_
    (rw [FX4_growOver]; (first | rw [if_pos c_5] | (dsimp only; rw [if_pos c_5])); (first | done | rfl | (dsimp only; done)))
  · replace hD := hD.2 c_5
    refine ab_iload_n (pc := 8) dX4_growOver_8 rfl rfl ?_
    refine ab_aload_n (pc := 9) dX4_growOver_9 rfl rfl ?_
    refine xo_gr (pc := 10) (a := (350 : Nat)) dX4_growOver_10 fl_X4_15 (by decide) rfl rfl ?_
    refine ab_iload_n (pc := 13) dX4_growOver_13 rfl rfl ?_
    obtain ⟨o3, hD⟩ := hD
    refine ab_nat1 (ab_nat o3) ?_
    obtain ⟨o4, hD⟩ := hD
    refine xo_ild (pc := 14) dX4_growOver_14 (by decide) rfl o4 (by decide) ?_
    refine ab_icmp_ne (pc := 15) (tgt := 33) dX4_growOver_15 (by decide) (fun c_15 => ?_) (fun c_15 => ?_)
    · refine xo_vr (pc := 33) dX4_growOver_33 rfl ?_
      (rw [FX4_growOver]; (first | rw [if_neg c_5] | (dsimp only; rw [if_neg c_5])); (first | rw [if_neg c_15] | (dsimp only; rw [if_neg c_15])); (first | done | rfl | (dsimp only; done)))
    · replace hD := hD.1 c_15
      refine ab_iload_n (pc := 18) dX4_growOver_18 rfl rfl ?_
      refine ab_bipush (pc := 19) (v := nI 32) dX4_growOver_19 (by decide) ?_
      refine ab_icmp_ge (pc := 21) (tgt := 33) dX4_growOver_21 (by decide) (fun c_21 => ?_) (fun c_21 => ?_)
      · refine xo_vr (pc := 33) dX4_growOver_33 rfl ?_
        (rw [FX4_growOver]; (first | rw [if_neg c_5] | (dsimp only; rw [if_neg c_5])); (first | rw [if_pos c_15] | (dsimp only; rw [if_pos c_15])); (first | rw [if_pos c_21] | (dsimp only; rw [if_pos c_21])); (first | done | rfl | (dsimp only; done)))
      · replace hD := hD.2 c_21
        refine ab_aload_n (pc := 24) dX4_growOver_24 rfl rfl ?_
        refine xo_gr (pc := 25) (a := (350 : Nat)) dX4_growOver_25 fl_X4_15 (by decide) rfl rfl ?_
        refine ab_iload_n (pc := 28) dX4_growOver_28 rfl rfl ?_
        refine ab_iload_n (pc := 29) dX4_growOver_29 rfl rfl ?_
        refine ab_iconst (pc := 30) (v := nI 1) dX4_growOver_30 (by decide) ?_
        refine ab_iadd (pc := 31) dX4_growOver_31 ?_
        obtain ⟨o5, hD⟩ := hD
        refine ab_nat3 (ab_nat o5) ?_
        obtain ⟨o6, hD⟩ := hD
        refine xo_ist (pc := 32) dX4_growOver_32 (by decide) rfl o6 (by decide) ?_
        refine xo_vr (pc := 33) dX4_growOver_33 rfl ?_
        (rw [FX4_growOver]; (first | rw [if_neg c_5] | (dsimp only; rw [if_neg c_5])); (first | rw [if_pos c_15] | (dsimp only; rw [if_pos c_15])); (first | rw [if_neg c_21] | (dsimp only; rw [if_neg c_21])); (first | done | rfl | (dsimp only; done)))
def FX7_slot (u : Int32) (e : Int32) (x : xD) : Int32 :=
  if (FX10_isUser (u)) = 0 then
    (-1)
  else
    if (e) < 0 then
      (-1)
    else
      if (e) < (nI (4)) then
        if (x.1 354 (((((u) - (nI (4))) * (nI (4))) + (e)).toNatClampNeg)) = (-1) then
          (-1)
        else
          ((((u) - (nI (4))) * (nI (4))) + (e))
      else
        (-1)
def DX7_slot (u : Int32) (e : Int32) (x : xD) : Prop :=
  (((FX10_isUser (u)) = 0) →
    True) ∧
  (¬ ((FX10_isUser (u)) = 0) →
    (((e) < 0) →
      True) ∧
    (¬ ((e) < 0) →
      (((e) < (nI (4))) →
        (¬ ((((u) - (nI (4))) * (nI (4))) + (e)) < 0) ∧
        ((((((u) - (nI (4))) * (nI (4))) + (e)).toNatClampNeg) < 32) ∧
        True) ∧
      (¬ ((e) < (nI (4))) →
        True)))
set_option maxRecDepth 100000 in
set_option maxHeartbeats 4000000 in
theorem c_X7_slot {tt : Prop} (u : Int32) (e : Int32) (x : xD) (hD : DX7_slot u e x) : ab_Met mX7_slot 1 0 0 tt [.ref (353 : Nat), .int (u), .int (e)] (sX x) (xQi (FX7_slot u e x, x)) := by
  refine ab_Met.of rfl (Nat.le_of_ble_eq_true rfl) ?_
  show xV mX7_slot 1 tt (xQi (FX7_slot u e x, x)) 0 [some (.ref (353 : Nat)), some (.int (u)), some (.int (e)), none] [] x
  refine ab_iload_n (pc := 0) dX7_slot_0 rfl rfl ?_
  refine xo_invsN (N := mX10_isUser) (pc := 1) (d' := 0) (av := [_]) dX7_slot_1 nn_X7_18 fs_X10_isUser (Nat.le_of_ble_eq_true rfl) (by decide) (c_X10_isUser _ _ trivial) ?_
  refine ab_if_eq (pc := 4) (tgt := 16) dX7_slot_4 (by decide) (fun c_4 => ?_) (fun c_4 => ?_)
  · refine ab_iconst (pc := 16) (v := -1) dX7_slot_16 (by decide) ?_
    refine xo_ir (pc := 17) dX7_slot_17 rfl rfl ?_
    (rw [FX7_slot]; (first | rw [if_pos c_4] | (dsimp only; rw [if_pos c_4])); (first | done | rfl | (dsimp only; done)))
  · replace hD := hD.2 c_4
    refine ab_iload_n (pc := 7) dX7_slot_7 rfl rfl ?_
    refine ab_if_lt (pc := 8) (tgt := 16) dX7_slot_8 (by decide) (fun c_8 => ?_) (fun c_8 => ?_)
    · refine ab_iconst (pc := 16) (v := -1) dX7_slot_16 (by decide) ?_
      refine xo_ir (pc := 17) dX7_slot_17 rfl rfl ?_
      (rw [FX7_slot]; (first | rw [if_neg c_4] | (dsimp only; rw [if_neg c_4])); (first | rw [if_pos c_8] | (dsimp only; rw [if_pos c_8])); (first | done | rfl | (dsimp only; done)))
    · replace hD := hD.2 c_8
      refine ab_iload_n (pc := 11) dX7_slot_11 rfl rfl ?_
      refine ab_iconst (pc := 12) (v := nI 4) dX7_slot_12 (by decide) ?_
      refine ab_icmp_lt (pc := 13) (tgt := 18) dX7_slot_13 (by decide) (fun c_13 => ?_) (fun c_13 => ?_)
      · replace hD := hD.1 c_13
        refine ab_iload_n (pc := 18) dX7_slot_18 rfl rfl ?_
        refine ab_iconst (pc := 19) (v := nI 4) dX7_slot_19 (by decide) ?_
        refine ab_isub (pc := 20) dX7_slot_20 ?_
        refine ab_iconst (pc := 21) (v := nI 4) dX7_slot_21 (by decide) ?_
        refine ab_imul (pc := 22) dX7_slot_22 ?_
        refine ab_iload_n (pc := 23) dX7_slot_23 rfl rfl ?_
        refine ab_iadd (pc := 24) dX7_slot_24 ?_
        refine ab_istore_n (pc := 25) dX7_slot_25 rfl (Nat.le_of_ble_eq_true rfl) rfl ?_
        refine ab_aload_n (pc := 26) dX7_slot_26 rfl rfl ?_
        refine xo_gr (pc := 27) (a := (354 : Nat)) dX7_slot_27 fl_X7_9 (by decide) rfl rfl ?_
        refine ab_iload_n (pc := 30) dX7_slot_30 rfl rfl ?_
        obtain ⟨o1, hD⟩ := hD
        refine ab_nat1 (ab_nat o1) ?_
        obtain ⟨o2, hD⟩ := hD
        refine xo_ild (pc := 31) dX7_slot_31 (by decide) rfl o2 (by decide) ?_
        refine ab_iconst (pc := 32) (v := -1) dX7_slot_32 (by decide) ?_
        refine ab_icmp_ne (pc := 33) (tgt := 40) dX7_slot_33 (by decide) (fun c_33 => ?_) (fun c_33 => ?_)
        · refine ab_iload_n (pc := 40) dX7_slot_40 rfl rfl ?_
          refine xo_ir (pc := 41) dX7_slot_41 rfl rfl ?_
          (rw [FX7_slot]; (first | rw [if_neg c_4] | (dsimp only; rw [if_neg c_4])); (first | rw [if_neg c_8] | (dsimp only; rw [if_neg c_8])); (first | rw [if_pos c_13] | (dsimp only; rw [if_pos c_13])); (first | rw [if_neg c_33] | (dsimp only; rw [if_neg c_33])); (first | done | rfl | (dsimp only; done)))
        · refine ab_iconst (pc := 36) (v := -1) dX7_slot_36 (by decide) ?_
          refine ab_goto (pc := 37) (tgt := 41) dX7_slot_37 (by decide) ?_
          refine xo_ir (pc := 41) dX7_slot_41 rfl rfl ?_
          (rw [FX7_slot]; (first | rw [if_neg c_4] | (dsimp only; rw [if_neg c_4])); (first | rw [if_neg c_8] | (dsimp only; rw [if_neg c_8])); (first | rw [if_pos c_13] | (dsimp only; rw [if_pos c_13])); (first | rw [if_pos c_33] | (dsimp only; rw [if_pos c_33])); (first | done | rfl | (dsimp only; done)))
      · refine ab_iconst (pc := 16) (v := -1) dX7_slot_16 (by decide) ?_
        refine xo_ir (pc := 17) dX7_slot_17 rfl rfl ?_
        (rw [FX7_slot]; (first | rw [if_neg c_4] | (dsimp only; rw [if_neg c_4])); (first | rw [if_neg c_8] | (dsimp only; rw [if_neg c_8])); (first | rw [if_neg c_13] | (dsimp only; rw [if_neg c_13])); (first | done | rfl | (dsimp only; done)))
def FX7_fileAt (u : Int32) (e : Int32) (x : xD) : Int32 :=
  if (FX7_slot (u) (e) x) = (-1) then
    (-1)
  else
    (x.1 354 ((FX7_slot (u) (e) x).toNatClampNeg))
def DX7_fileAt (u : Int32) (e : Int32) (x : xD) : Prop :=
  (DX7_slot (u) (e) x) ∧
  (((FX7_slot (u) (e) x) = (-1)) →
    True) ∧
  (¬ ((FX7_slot (u) (e) x) = (-1)) →
    (¬ (FX7_slot (u) (e) x) < 0) ∧
    (((FX7_slot (u) (e) x).toNatClampNeg) < 32) ∧
    True)
set_option maxRecDepth 100000 in
set_option maxHeartbeats 4000000 in
theorem c_X7_fileAt {tt : Prop} (u : Int32) (e : Int32) (x : xD) (hD : DX7_fileAt u e x) : ab_Met mX7_fileAt 2 0 0 tt [.ref (353 : Nat), .int (u), .int (e)] (sX x) (xQi (FX7_fileAt u e x, x)) := by
  refine ab_Met.of rfl (Nat.le_of_ble_eq_true rfl) ?_
  show xV mX7_fileAt 2 tt (xQi (FX7_fileAt u e x, x)) 0 [some (.ref (353 : Nat)), some (.int (u)), some (.int (e)), none] [] x
  refine ab_aload_n (pc := 0) dX7_fileAt_0 rfl rfl ?_
  refine ab_iload_n (pc := 1) dX7_fileAt_1 rfl rfl ?_
  refine ab_iload_n (pc := 2) dX7_fileAt_2 rfl rfl ?_
  obtain ⟨o1, hD⟩ := hD
  have e2 := c_X7_slot (tt := tt) _ _ _ o1
  refine xo_invr (N := mX7_slot) (pc := 3) (d' := 1) (av := [_, _]) dX7_fileAt_3 ml_X7_22 fv_X7_slot (by decide) (Nat.le_of_ble_eq_true rfl) (by decide) e2 ?_
  refine ab_istore_n (pc := 6) dX7_fileAt_6 rfl (Nat.le_of_ble_eq_true rfl) rfl ?_
  refine ab_iload_n (pc := 7) dX7_fileAt_7 rfl rfl ?_
  refine ab_iconst (pc := 8) (v := -1) dX7_fileAt_8 (by decide) ?_
  refine ab_icmp_ne (pc := 9) (tgt := 16) dX7_fileAt_9 (by decide) (fun c_9 => ?_) (fun c_9 => ?_)
  · replace hD := hD.2 c_9
    refine ab_aload_n (pc := 16) dX7_fileAt_16 rfl rfl ?_
    refine xo_gr (pc := 17) (a := (354 : Nat)) dX7_fileAt_17 fl_X7_9 (by decide) rfl rfl ?_
    refine ab_iload_n (pc := 20) dX7_fileAt_20 rfl rfl ?_
    obtain ⟨o3, hD⟩ := hD
    refine ab_nat1 (ab_nat o3) ?_
    obtain ⟨o4, hD⟩ := hD
    refine xo_ild (pc := 21) dX7_fileAt_21 (by decide) rfl o4 (by decide) ?_
    refine xo_ir (pc := 22) dX7_fileAt_22 rfl rfl ?_
    (rw [FX7_fileAt]; (first | rw [if_neg c_9] | (dsimp only; rw [if_neg c_9])); (first | done | rfl | (dsimp only; done)))
  · refine ab_iconst (pc := 12) (v := -1) dX7_fileAt_12 (by decide) ?_
    refine ab_goto (pc := 13) (tgt := 22) dX7_fileAt_13 (by decide) ?_
    refine xo_ir (pc := 22) dX7_fileAt_22 rfl rfl ?_
    (rw [FX7_fileAt]; (first | rw [if_pos c_9] | (dsimp only; rw [if_pos c_9])); (first | done | rfl | (dsimp only; done)))
def FX7_placeAt (u : Int32) (e : Int32) (x : xD) : Int32 :=
  if (FX7_slot (u) (e) x) = (-1) then
    (-1)
  else
    (x.1 355 ((FX7_slot (u) (e) x).toNatClampNeg))
def DX7_placeAt (u : Int32) (e : Int32) (x : xD) : Prop :=
  (DX7_slot (u) (e) x) ∧
  (((FX7_slot (u) (e) x) = (-1)) →
    True) ∧
  (¬ ((FX7_slot (u) (e) x) = (-1)) →
    (¬ (FX7_slot (u) (e) x) < 0) ∧
    (((FX7_slot (u) (e) x).toNatClampNeg) < 32) ∧
    True)
set_option maxRecDepth 100000 in
set_option maxHeartbeats 4000000 in
theorem c_X7_placeAt {tt : Prop} (u : Int32) (e : Int32) (x : xD) (hD : DX7_placeAt u e x) : ab_Met mX7_placeAt 2 0 0 tt [.ref (353 : Nat), .int (u), .int (e)] (sX x) (xQi (FX7_placeAt u e x, x)) := by
  refine ab_Met.of rfl (Nat.le_of_ble_eq_true rfl) ?_
  show xV mX7_placeAt 2 tt (xQi (FX7_placeAt u e x, x)) 0 [some (.ref (353 : Nat)), some (.int (u)), some (.int (e)), none] [] x
  refine ab_aload_n (pc := 0) dX7_placeAt_0 rfl rfl ?_
  refine ab_iload_n (pc := 1) dX7_placeAt_1 rfl rfl ?_
  refine ab_iload_n (pc := 2) dX7_placeAt_2 rfl rfl ?_
  obtain ⟨o1, hD⟩ := hD
  have e2 := c_X7_slot (tt := tt) _ _ _ o1
  refine xo_invr (N := mX7_slot) (pc := 3) (d' := 1) (av := [_, _]) dX7_placeAt_3 ml_X7_22 fv_X7_slot (by decide) (Nat.le_of_ble_eq_true rfl) (by decide) e2 ?_
  refine ab_istore_n (pc := 6) dX7_placeAt_6 rfl (Nat.le_of_ble_eq_true rfl) rfl ?_
  refine ab_iload_n (pc := 7) dX7_placeAt_7 rfl rfl ?_
  refine ab_iconst (pc := 8) (v := -1) dX7_placeAt_8 (by decide) ?_
  refine ab_icmp_ne (pc := 9) (tgt := 16) dX7_placeAt_9 (by decide) (fun c_9 => ?_) (fun c_9 => ?_)
  · replace hD := hD.2 c_9
    refine ab_aload_n (pc := 16) dX7_placeAt_16 rfl rfl ?_
    refine xo_gr (pc := 17) (a := (355 : Nat)) dX7_placeAt_17 fl_X7_15 (by decide) rfl rfl ?_
    refine ab_iload_n (pc := 20) dX7_placeAt_20 rfl rfl ?_
    obtain ⟨o3, hD⟩ := hD
    refine ab_nat1 (ab_nat o3) ?_
    obtain ⟨o4, hD⟩ := hD
    refine xo_ild (pc := 21) dX7_placeAt_21 (by decide) rfl o4 (by decide) ?_
    refine xo_ir (pc := 22) dX7_placeAt_22 rfl rfl ?_
    (rw [FX7_placeAt]; (first | rw [if_neg c_9] | (dsimp only; rw [if_neg c_9])); (first | done | rfl | (dsimp only; done)))
  · refine ab_iconst (pc := 12) (v := -1) dX7_placeAt_12 (by decide) ?_
    refine ab_goto (pc := 13) (tgt := 22) dX7_placeAt_13 (by decide) ?_
    refine xo_ir (pc := 22) dX7_placeAt_22 rfl rfl ?_
    (rw [FX7_placeAt]; (first | rw [if_pos c_9] | (dsimp only; rw [if_pos c_9])); (first | done | rfl | (dsimp only; done)))
def FX7_setPlace (u : Int32) (e : Int32) (p : Int32) (x : xD) : xD :=
  if (FX7_slot (u) (e) x) = (-1) then
    x
  else
    let x5 : xD := (ab_up x.1 355 ((FX7_slot (u) (e) x).toNatClampNeg) (p), x.2)
    x5
def DX7_setPlace (u : Int32) (e : Int32) (p : Int32) (x : xD) : Prop :=
  (DX7_slot (u) (e) x) ∧
  (((FX7_slot (u) (e) x) = (-1)) →
    True) ∧
  (¬ ((FX7_slot (u) (e) x) = (-1)) →
    (¬ (FX7_slot (u) (e) x) < 0) ∧
    (((FX7_slot (u) (e) x).toNatClampNeg) < 32) ∧
    let x5 : xD := (ab_up x.1 355 ((FX7_slot (u) (e) x).toNatClampNeg) (p), x.2)
    True)
set_option maxRecDepth 100000 in
set_option maxHeartbeats 4000000 in
theorem c_X7_setPlace {tt : Prop} (u : Int32) (e : Int32) (p : Int32) (x : xD) (hD : DX7_setPlace u e p x) : ab_Met mX7_setPlace 2 0 0 tt [.ref (353 : Nat), .int (u), .int (e), .int (p)] (sX x) (xQv (FX7_setPlace u e p x)) := by
  refine ab_Met.of rfl (Nat.le_of_ble_eq_true rfl) ?_
  show xV mX7_setPlace 2 tt (xQv (FX7_setPlace u e p x)) 0 [some (.ref (353 : Nat)), some (.int (u)), some (.int (e)), some (.int (p)), none] [] x
  refine ab_aload_n (pc := 0) dX7_setPlace_0 rfl rfl ?_
  refine ab_iload_n (pc := 1) dX7_setPlace_1 rfl rfl ?_
  refine ab_iload_n (pc := 2) dX7_setPlace_2 rfl rfl ?_
  obtain ⟨o1, hD⟩ := hD
  have e2 := c_X7_slot (tt := tt) _ _ _ o1
  refine xo_invr (N := mX7_slot) (pc := 3) (d' := 1) (av := [_, _]) dX7_setPlace_3 ml_X7_22 fv_X7_slot (by decide) (Nat.le_of_ble_eq_true rfl) (by decide) e2 ?_
  refine ab_istore (pc := 6) dX7_setPlace_6 (Nat.le_of_ble_eq_true rfl) rfl ?_
  refine ab_iload (pc := 8) dX7_setPlace_8 rfl ?_
  refine ab_iconst (pc := 10) (v := -1) dX7_setPlace_10 (by decide) ?_
  refine ab_icmp_eq (pc := 11) (tgt := 22) dX7_setPlace_11 (by decide) (fun c_11 => ?_) (fun c_11 => ?_)
  · refine xo_vr (pc := 22) dX7_setPlace_22 rfl ?_
    (rw [FX7_setPlace]; (first | rw [if_pos c_11] | (dsimp only; rw [if_pos c_11])); (first | done | rfl | (dsimp only; done)))
  · replace hD := hD.2 c_11
    refine ab_aload_n (pc := 14) dX7_setPlace_14 rfl rfl ?_
    refine xo_gr (pc := 15) (a := (355 : Nat)) dX7_setPlace_15 fl_X7_15 (by decide) rfl rfl ?_
    refine ab_iload (pc := 18) dX7_setPlace_18 rfl ?_
    refine ab_iload_n (pc := 20) dX7_setPlace_20 rfl rfl ?_
    obtain ⟨o3, hD⟩ := hD
    refine ab_nat3 (ab_nat o3) ?_
    obtain ⟨o4, hD⟩ := hD
    refine xo_ist (pc := 21) dX7_setPlace_21 (by decide) rfl o4 (by decide) ?_
    refine xo_vr (pc := 22) dX7_setPlace_22 rfl ?_
    (rw [FX7_setPlace]; (first | rw [if_neg c_11] | (dsimp only; rw [if_neg c_11])); (first | done | rfl | (dsimp only; done)))
def FX7_leastFree_2 : Nat → Int32 → Nat → xD → Int32
  | 0, _, _, _ => 0
  | n + 1, u, a2, x =>
    if 4 ≤ a2 then
      (-1)
    else
      if (FX7_slot (u) (nI (a2)) x) = (-1) then
        (nI (a2))
      else
        FX7_leastFree_2 n u (a2 + 1) x
def DX7_leastFree_2 : Nat → Int32 → Nat → xD → Prop
  | 0, _, _, _ => False
  | n + 1, u, a2, x =>
    (a2 < 2147483648) ∧
    ((4 ≤ a2) →
      True) ∧
    (¬ (4 ≤ a2) →
      (DX7_slot (u) (nI (a2)) x) ∧
      (((FX7_slot (u) (nI (a2)) x) = (-1)) →
        True) ∧
      (¬ ((FX7_slot (u) (nI (a2)) x) = (-1)) →
        DX7_leastFree_2 n u (a2 + 1) x))
set_option maxRecDepth 100000 in
set_option maxHeartbeats 4000000 in
theorem w_X7_leastFree_2 {tt : Prop} : ∀ (n : Nat) (u : Int32) (a2 : Nat) (x : xD) (hD : DX7_leastFree_2 n u a2 x), xV mX7_leastFree 2 tt (xQi (FX7_leastFree_2 n u a2 x, x)) 2 [some (.ref (353 : Nat)), some (.int (u)), some (.int (nI (a2)))] [] x := by
  intro n
  induction n with
  | zero => intros; rename_i hD; exact hD.elim
  | succ n ih =>
    intro u a2 x hD
    refine ab_iload_n (pc := 2) dX7_leastFree_2 rfl rfl ?_
    refine ab_iconst (pc := 3) (v := nI 4) dX7_leastFree_3 (by decide) ?_
    obtain ⟨o1, hD⟩ := hD
    refine ab_icmp_geN (pc := 4) (tgt := 25) dX7_leastFree_4 (by decide) o1 (by decide) (fun c_4 => ?_) (fun c_4 => ?_)
    · refine ab_iconst (pc := 25) (v := -1) dX7_leastFree_25 (by decide) ?_
      refine xo_ir (pc := 26) dX7_leastFree_26 rfl rfl ?_
      (rw [FX7_leastFree_2]; (first | rw [if_pos c_4] | (dsimp only; rw [if_pos c_4])); (first | done | rfl | (dsimp only; done)))
    · replace hD := hD.2 c_4
      refine ab_aload_n (pc := 7) dX7_leastFree_7 rfl rfl ?_
      refine ab_iload_n (pc := 8) dX7_leastFree_8 rfl rfl ?_
      refine ab_iload_n (pc := 9) dX7_leastFree_9 rfl rfl ?_
      obtain ⟨o2, hD⟩ := hD
      have e3 := c_X7_slot (tt := tt) _ _ _ o2
      refine xo_invr (N := mX7_slot) (pc := 10) (d' := 1) (av := [_, _]) dX7_leastFree_10 ml_X7_22 fv_X7_slot (by decide) (Nat.le_of_ble_eq_true rfl) (by decide) e3 ?_
      refine ab_iconst (pc := 13) (v := -1) dX7_leastFree_13 (by decide) ?_
      refine ab_icmp_ne (pc := 14) (tgt := 19) dX7_leastFree_14 (by decide) (fun c_14 => ?_) (fun c_14 => ?_)
      · replace hD := hD.2 c_14
        refine ab_iinc (pc := 19) dX7_leastFree_19 rfl (ab_inc _) (Nat.le_of_ble_eq_true rfl) rfl ?_
        refine ab_goto (pc := 22) (tgt := 2) dX7_leastFree_22 (by decide) ?_
        refine xo_eqr ?_ (ih _ _ _ hD)
        (rw [FX7_leastFree_2]; (first | rw [if_neg c_4] | (dsimp only; rw [if_neg c_4])); (first | rw [if_neg c_14] | (dsimp only; rw [if_neg c_14])); (first | done | rfl | (dsimp only; done)))
      · refine ab_iload_n (pc := 17) dX7_leastFree_17 rfl rfl ?_
        refine xo_ir (pc := 18) dX7_leastFree_18 rfl rfl ?_
        (rw [FX7_leastFree_2]; (first | rw [if_neg c_4] | (dsimp only; rw [if_neg c_4])); (first | rw [if_pos c_14] | (dsimp only; rw [if_pos c_14])); (first | done | rfl | (dsimp only; done)))
def FX7_leastFree (u : Int32) (x : xD) : Int32 :=
  FX7_leastFree_2 5 u 0 x
def DX7_leastFree (u : Int32) (x : xD) : Prop :=
  DX7_leastFree_2 5 u 0 x
set_option maxRecDepth 100000 in
set_option maxHeartbeats 4000000 in
theorem c_X7_leastFree {tt : Prop} (u : Int32) (x : xD) (hD : DX7_leastFree u x) : ab_Met mX7_leastFree 2 0 0 tt [.ref (353 : Nat), .int (u)] (sX x) (xQi (FX7_leastFree u x, x)) := by
  refine ab_Met.of rfl (Nat.le_of_ble_eq_true rfl) ?_
  show xV mX7_leastFree 2 tt (xQi (FX7_leastFree u x, x)) 0 [some (.ref (353 : Nat)), some (.int (u)), none] [] x
  refine ab_iconst (pc := 0) (v := nI 0) dX7_leastFree_0 (by decide) ?_
  refine ab_istore_n (pc := 1) dX7_leastFree_1 rfl (Nat.le_of_ble_eq_true rfl) rfl ?_
  refine xo_eqr ?_ (w_X7_leastFree_2 5 _ _ _ hD)
  first | rfl | (rw [FX7_leastFree]; done) | (rw [FX7_leastFree]; rfl)
def FX7_howMany_4 : Nat → Int32 → Int32 → Nat → xD → Int32
  | 0, _, _, _, _ => 0
  | n + 1, u, a2, a3, x =>
    if 4 ≤ a3 then
      (a2)
    else
      if (FX7_slot (u) (nI (a3)) x) = (-1) then
        FX7_howMany_4 n u ((a2) + (nI (0))) (a3 + 1) x
      else
        FX7_howMany_4 n u ((a2) + (nI (1))) (a3 + 1) x
def DX7_howMany_4 : Nat → Int32 → Int32 → Nat → xD → Prop
  | 0, _, _, _, _ => False
  | n + 1, u, a2, a3, x =>
    (a3 < 2147483648) ∧
    ((4 ≤ a3) →
      True) ∧
    (¬ (4 ≤ a3) →
      (DX7_slot (u) (nI (a3)) x) ∧
      (((FX7_slot (u) (nI (a3)) x) = (-1)) →
        DX7_howMany_4 n u ((a2) + (nI (0))) (a3 + 1) x) ∧
      (¬ ((FX7_slot (u) (nI (a3)) x) = (-1)) →
        DX7_howMany_4 n u ((a2) + (nI (1))) (a3 + 1) x))
set_option maxRecDepth 100000 in
set_option maxHeartbeats 4000000 in
theorem w_X7_howMany_4 {tt : Prop} : ∀ (n : Nat) (u : Int32) (a2 : Int32) (a3 : Nat) (x : xD) (hD : DX7_howMany_4 n u a2 a3 x), xV mX7_howMany 2 tt (xQi (FX7_howMany_4 n u a2 a3 x, x)) 4 [some (.ref (353 : Nat)), some (.int (u)), some (.int (a2)), some (.int (nI (a3)))] [] x := by
  intro n
  induction n with
  | zero => intros; rename_i hD; exact hD.elim
  | succ n ih =>
    intro u a2 a3 x hD
    refine ab_iload_n (pc := 4) dX7_howMany_4 rfl rfl ?_
    refine ab_iconst (pc := 5) (v := nI 4) dX7_howMany_5 (by decide) ?_
    obtain ⟨o1, hD⟩ := hD
    refine ab_icmp_geN (pc := 6) (tgt := 33) dX7_howMany_6 (by decide) o1 (by decide) (fun c_6 => ?_) (fun c_6 => ?_)
    · refine ab_iload_n (pc := 33) dX7_howMany_33 rfl rfl ?_
      refine xo_ir (pc := 34) dX7_howMany_34 rfl rfl ?_
      (rw [FX7_howMany_4]; (first | rw [if_pos c_6] | (dsimp only; rw [if_pos c_6])); (first | done | rfl | (dsimp only; done)))
    · replace hD := hD.2 c_6
      refine ab_iload_n (pc := 9) dX7_howMany_9 rfl rfl ?_
      refine ab_aload_n (pc := 10) dX7_howMany_10 rfl rfl ?_
      refine ab_iload_n (pc := 11) dX7_howMany_11 rfl rfl ?_
      refine ab_iload_n (pc := 12) dX7_howMany_12 rfl rfl ?_
      obtain ⟨o2, hD⟩ := hD
      have e3 := c_X7_slot (tt := tt) _ _ _ o2
      refine xo_invr (N := mX7_slot) (pc := 13) (d' := 1) (av := [_, _]) dX7_howMany_13 ml_X7_22 fv_X7_slot (by decide) (Nat.le_of_ble_eq_true rfl) (by decide) e3 ?_
      refine ab_iconst (pc := 16) (v := -1) dX7_howMany_16 (by decide) ?_
      refine ab_icmp_ne (pc := 17) (tgt := 24) dX7_howMany_17 (by decide) (fun c_17 => ?_) (fun c_17 => ?_)
      · replace hD := hD.2 c_17
        refine ab_iconst (pc := 24) (v := nI 1) dX7_howMany_24 (by decide) ?_
        refine ab_iadd (pc := 25) dX7_howMany_25 ?_
        refine ab_istore_n (pc := 26) dX7_howMany_26 rfl (Nat.le_of_ble_eq_true rfl) rfl ?_
        refine ab_iinc (pc := 27) dX7_howMany_27 rfl (ab_inc _) (Nat.le_of_ble_eq_true rfl) rfl ?_
        refine ab_goto (pc := 30) (tgt := 4) dX7_howMany_30 (by decide) ?_
        refine xo_eqr ?_ (ih _ _ _ _ hD)
        (rw [FX7_howMany_4]; (first | rw [if_neg c_6] | (dsimp only; rw [if_neg c_6])); (first | rw [if_neg c_17] | (dsimp only; rw [if_neg c_17])); (first | done | rfl | (dsimp only; done)))
      · replace hD := hD.1 c_17
        refine ab_iconst (pc := 20) (v := nI 0) dX7_howMany_20 (by decide) ?_
        refine ab_goto (pc := 21) (tgt := 25) dX7_howMany_21 (by decide) ?_
        refine ab_iadd (pc := 25) dX7_howMany_25 ?_
        refine ab_istore_n (pc := 26) dX7_howMany_26 rfl (Nat.le_of_ble_eq_true rfl) rfl ?_
        refine ab_iinc (pc := 27) dX7_howMany_27 rfl (ab_inc _) (Nat.le_of_ble_eq_true rfl) rfl ?_
        refine ab_goto (pc := 30) (tgt := 4) dX7_howMany_30 (by decide) ?_
        refine xo_eqr ?_ (ih _ _ _ _ hD)
        (rw [FX7_howMany_4]; (first | rw [if_neg c_6] | (dsimp only; rw [if_neg c_6])); (first | rw [if_pos c_17] | (dsimp only; rw [if_pos c_17])); (first | done | rfl | (dsimp only; done)))
def FX7_howMany (u : Int32) (x : xD) : Int32 :=
  FX7_howMany_4 5 u (nI (0)) 0 x
def DX7_howMany (u : Int32) (x : xD) : Prop :=
  DX7_howMany_4 5 u (nI (0)) 0 x
set_option maxRecDepth 100000 in
set_option maxHeartbeats 4000000 in
theorem c_X7_howMany {tt : Prop} (u : Int32) (x : xD) (hD : DX7_howMany u x) : ab_Met mX7_howMany 2 0 0 tt [.ref (353 : Nat), .int (u)] (sX x) (xQi (FX7_howMany u x, x)) := by
  refine ab_Met.of rfl (Nat.le_of_ble_eq_true rfl) ?_
  show xV mX7_howMany 2 tt (xQi (FX7_howMany u x, x)) 0 [some (.ref (353 : Nat)), some (.int (u)), none, none] [] x
  refine ab_iconst (pc := 0) (v := nI 0) dX7_howMany_0 (by decide) ?_
  refine ab_istore_n (pc := 1) dX7_howMany_1 rfl (Nat.le_of_ble_eq_true rfl) rfl ?_
  refine ab_iconst (pc := 2) (v := nI 0) dX7_howMany_2 (by decide) ?_
  refine ab_istore_n (pc := 3) dX7_howMany_3 rfl (Nat.le_of_ble_eq_true rfl) rfl ?_
  refine xo_eqr ?_ (w_X7_howMany_4 5 _ _ _ _ hD)
  first | rfl | (rw [FX7_howMany]; done) | (rw [FX7_howMany]; rfl)
def FX7_anybodyHas_2 : Nat → Int32 → Nat → xD → Int32
  | 0, _, _, _ => 0
  | n + 1, f, a2, x =>
    if 32 ≤ a2 then
      (nI (0))
    else
      if (x.1 354 a2) = (f) then
        (nI (1))
      else
        FX7_anybodyHas_2 n f (a2 + 1) x
def DX7_anybodyHas_2 : Nat → Int32 → Nat → xD → Prop
  | 0, _, _, _ => False
  | n + 1, f, a2, x =>
    (a2 < 2147483648) ∧
    ((32 ≤ a2) →
      True) ∧
    (¬ (32 ≤ a2) →
      (a2 < 32) ∧
      (((x.1 354 a2) = (f)) →
        True) ∧
      (¬ ((x.1 354 a2) = (f)) →
        DX7_anybodyHas_2 n f (a2 + 1) x))
set_option maxRecDepth 100000 in
set_option maxHeartbeats 4000000 in
theorem w_X7_anybodyHas_2 {tt : Prop} : ∀ (n : Nat) (f : Int32) (a2 : Nat) (x : xD) (hD : DX7_anybodyHas_2 n f a2 x), xV mX7_anybodyHas 0 tt (xQi (FX7_anybodyHas_2 n f a2 x, x)) 2 [some (.ref (353 : Nat)), some (.int (f)), some (.int (nI (a2)))] [] x := by
  intro n
  induction n with
  | zero => intros; rename_i hD; exact hD.elim
  | succ n ih =>
    intro f a2 x hD
    refine ab_iload_n (pc := 2) dX7_anybodyHas_2 rfl rfl ?_
    refine ab_aload_n (pc := 3) dX7_anybodyHas_3 rfl rfl ?_
    refine xo_gr (pc := 4) (a := (354 : Nat)) dX7_anybodyHas_4 fl_X7_9 (by decide) rfl rfl ?_
    refine xo_aln (pc := 7) dX7_anybodyHas_7 (by decide) ?_
    refine ab_nat1 (n := 32) rfl ?_
    obtain ⟨o1, hD⟩ := hD
    refine ab_icmp_geN (pc := 8) (tgt := 29) dX7_anybodyHas_8 (by decide) o1 (by decide) (fun c_8 => ?_) (fun c_8 => ?_)
    · refine ab_iconst (pc := 29) (v := nI 0) dX7_anybodyHas_29 (by decide) ?_
      refine xo_ir (pc := 30) dX7_anybodyHas_30 rfl (ab_nb (Or.inl rfl)) ?_
      (rw [FX7_anybodyHas_2]; (first | rw [if_pos c_8] | (dsimp only; rw [if_pos c_8])); (first | done | rfl | (dsimp only; done)))
    · replace hD := hD.2 c_8
      refine ab_aload_n (pc := 11) dX7_anybodyHas_11 rfl rfl ?_
      refine xo_gr (pc := 12) (a := (354 : Nat)) dX7_anybodyHas_12 fl_X7_9 (by decide) rfl rfl ?_
      refine ab_iload_n (pc := 15) dX7_anybodyHas_15 rfl rfl ?_
      obtain ⟨o2, hD⟩ := hD
      refine xo_ild (pc := 16) dX7_anybodyHas_16 (by decide) rfl o2 (by decide) ?_
      refine ab_iload_n (pc := 17) dX7_anybodyHas_17 rfl rfl ?_
      refine ab_icmp_ne (pc := 18) (tgt := 23) dX7_anybodyHas_18 (by decide) (fun c_18 => ?_) (fun c_18 => ?_)
      · replace hD := hD.2 c_18
        refine ab_iinc (pc := 23) dX7_anybodyHas_23 rfl (ab_inc _) (Nat.le_of_ble_eq_true rfl) rfl ?_
        refine ab_goto (pc := 26) (tgt := 2) dX7_anybodyHas_26 (by decide) ?_
        refine xo_eqr ?_ (ih _ _ _ hD)
        (rw [FX7_anybodyHas_2]; (first | rw [if_neg c_8] | (dsimp only; rw [if_neg c_8])); (first | rw [if_neg c_18] | (dsimp only; rw [if_neg c_18])); (first | done | rfl | (dsimp only; done)))
      · refine ab_iconst (pc := 21) (v := nI 1) dX7_anybodyHas_21 (by decide) ?_
        refine xo_ir (pc := 22) dX7_anybodyHas_22 rfl (ab_nb (Or.inr rfl)) ?_
        (rw [FX7_anybodyHas_2]; (first | rw [if_neg c_8] | (dsimp only; rw [if_neg c_8])); (first | rw [if_pos c_18] | (dsimp only; rw [if_pos c_18])); (first | done | rfl | (dsimp only; done)))
def FX7_anybodyHas (f : Int32) (x : xD) : Int32 :=
  FX7_anybodyHas_2 33 f 0 x
def DX7_anybodyHas (f : Int32) (x : xD) : Prop :=
  DX7_anybodyHas_2 33 f 0 x
set_option maxRecDepth 100000 in
set_option maxHeartbeats 4000000 in
theorem c_X7_anybodyHas {tt : Prop} (f : Int32) (x : xD) (hD : DX7_anybodyHas f x) : ab_Met mX7_anybodyHas 0 0 0 tt [.ref (353 : Nat), .int (f)] (sX x) (xQi (FX7_anybodyHas f x, x)) := by
  refine ab_Met.of rfl (Nat.le_of_ble_eq_true rfl) ?_
  show xV mX7_anybodyHas 0 tt (xQi (FX7_anybodyHas f x, x)) 0 [some (.ref (353 : Nat)), some (.int (f)), none] [] x
  refine ab_iconst (pc := 0) (v := nI 0) dX7_anybodyHas_0 (by decide) ?_
  refine ab_istore_n (pc := 1) dX7_anybodyHas_1 rfl (Nat.le_of_ble_eq_true rfl) rfl ?_
  refine xo_eqr ?_ (w_X7_anybodyHas_2 33 _ _ _ hD)
  first | rfl | (rw [FX7_anybodyHas]; done) | (rw [FX7_anybodyHas]; rfl)
def FX7_set (u : Int32) (e : Int32) (f : Int32) (p : Int32) (x : xD) : xD :=
  if (FX10_isUser (u)) = 0 then
    x
  else
    if (e) < 0 then
      x
    else
      if (nI (4)) ≤ (e) then
        x
      else
        let x3 : xD := (ab_up x.1 354 (((((u) - (nI (4))) * (nI (4))) + (e)).toNatClampNeg) (f), x.2)
        let x6 : xD := (ab_up x3.1 355 (((((u) - (nI (4))) * (nI (4))) + (e)).toNatClampNeg) (p), x3.2)
        x6
def DX7_set (u : Int32) (e : Int32) (f : Int32) (p : Int32) (x : xD) : Prop :=
  (((FX10_isUser (u)) = 0) →
    True) ∧
  (¬ ((FX10_isUser (u)) = 0) →
    (((e) < 0) →
      True) ∧
    (¬ ((e) < 0) →
      (((nI (4)) ≤ (e)) →
        True) ∧
      (¬ ((nI (4)) ≤ (e)) →
        (¬ ((((u) - (nI (4))) * (nI (4))) + (e)) < 0) ∧
        ((((((u) - (nI (4))) * (nI (4))) + (e)).toNatClampNeg) < 32) ∧
        let x3 : xD := (ab_up x.1 354 (((((u) - (nI (4))) * (nI (4))) + (e)).toNatClampNeg) (f), x.2)
        (¬ ((((u) - (nI (4))) * (nI (4))) + (e)) < 0) ∧
        ((((((u) - (nI (4))) * (nI (4))) + (e)).toNatClampNeg) < 32) ∧
        let x6 : xD := (ab_up x3.1 355 (((((u) - (nI (4))) * (nI (4))) + (e)).toNatClampNeg) (p), x3.2)
        True)))
set_option maxRecDepth 100000 in
set_option maxHeartbeats 4000000 in
theorem c_X7_set {tt : Prop} (u : Int32) (e : Int32) (f : Int32) (p : Int32) (x : xD) (hD : DX7_set u e f p x) : ab_Met mX7_set 1 0 0 tt [.ref (353 : Nat), .int (u), .int (e), .int (f), .int (p)] (sX x) (xQv (FX7_set u e f p x)) := by
  refine ab_Met.of rfl (Nat.le_of_ble_eq_true rfl) ?_
  show xV mX7_set 1 tt (xQv (FX7_set u e f p x)) 0 [some (.ref (353 : Nat)), some (.int (u)), some (.int (e)), some (.int (f)), some (.int (p)), none] [] x
  refine ab_iload_n (pc := 0) dX7_set_0 rfl rfl ?_
  refine xo_invsN (N := mX10_isUser) (pc := 1) (d' := 0) (av := [_]) dX7_set_1 nn_X7_18 fs_X10_isUser (Nat.le_of_ble_eq_true rfl) (by decide) (c_X10_isUser _ _ trivial) ?_
  refine ab_if_eq (pc := 4) (tgt := 42) dX7_set_4 (by decide) (fun c_4 => ?_) (fun c_4 => ?_)
  · refine xo_vr (pc := 42) dX7_set_42 rfl ?_
    (rw [FX7_set]; (first | rw [if_pos c_4] | (dsimp only; rw [if_pos c_4])); (first | done | rfl | (dsimp only; done)))
  · replace hD := hD.2 c_4
    refine ab_iload_n (pc := 7) dX7_set_7 rfl rfl ?_
    refine ab_if_lt (pc := 8) (tgt := 42) dX7_set_8 (by decide) (fun c_8 => ?_) (fun c_8 => ?_)
    · refine xo_vr (pc := 42) dX7_set_42 rfl ?_
      (rw [FX7_set]; (first | rw [if_neg c_4] | (dsimp only; rw [if_neg c_4])); (first | rw [if_pos c_8] | (dsimp only; rw [if_pos c_8])); (first | done | rfl | (dsimp only; done)))
    · replace hD := hD.2 c_8
      refine ab_iload_n (pc := 11) dX7_set_11 rfl rfl ?_
      refine ab_iconst (pc := 12) (v := nI 4) dX7_set_12 (by decide) ?_
      refine ab_icmp_ge (pc := 13) (tgt := 42) dX7_set_13 (by decide) (fun c_13 => ?_) (fun c_13 => ?_)
      · refine xo_vr (pc := 42) dX7_set_42 rfl ?_
        (rw [FX7_set]; (first | rw [if_neg c_4] | (dsimp only; rw [if_neg c_4])); (first | rw [if_neg c_8] | (dsimp only; rw [if_neg c_8])); (first | rw [if_pos c_13] | (dsimp only; rw [if_pos c_13])); (first | done | rfl | (dsimp only; done)))
      · replace hD := hD.2 c_13
        refine ab_iload_n (pc := 16) dX7_set_16 rfl rfl ?_
        refine ab_iconst (pc := 17) (v := nI 4) dX7_set_17 (by decide) ?_
        refine ab_isub (pc := 18) dX7_set_18 ?_
        refine ab_iconst (pc := 19) (v := nI 4) dX7_set_19 (by decide) ?_
        refine ab_imul (pc := 20) dX7_set_20 ?_
        refine ab_iload_n (pc := 21) dX7_set_21 rfl rfl ?_
        refine ab_iadd (pc := 22) dX7_set_22 ?_
        refine ab_istore (pc := 23) dX7_set_23 (Nat.le_of_ble_eq_true rfl) rfl ?_
        refine ab_aload_n (pc := 25) dX7_set_25 rfl rfl ?_
        refine xo_gr (pc := 26) (a := (354 : Nat)) dX7_set_26 fl_X7_9 (by decide) rfl rfl ?_
        refine ab_iload (pc := 29) dX7_set_29 rfl ?_
        refine ab_iload_n (pc := 31) dX7_set_31 rfl rfl ?_
        obtain ⟨o1, hD⟩ := hD
        refine ab_nat3 (ab_nat o1) ?_
        obtain ⟨o2, hD⟩ := hD
        refine xo_ist (pc := 32) dX7_set_32 (by decide) rfl o2 (by decide) ?_
        refine ab_aload_n (pc := 33) dX7_set_33 rfl rfl ?_
        refine xo_gr (pc := 34) (a := (355 : Nat)) dX7_set_34 fl_X7_15 (by decide) rfl rfl ?_
        refine ab_iload (pc := 37) dX7_set_37 rfl ?_
        refine ab_iload (pc := 39) dX7_set_39 rfl ?_
        obtain ⟨o4, hD⟩ := hD
        refine ab_nat3 (ab_nat o4) ?_
        obtain ⟨o5, hD⟩ := hD
        refine xo_ist (pc := 41) dX7_set_41 (by decide) rfl o5 (by decide) ?_
        refine xo_vr (pc := 42) dX7_set_42 rfl ?_
        (rw [FX7_set]; (first | rw [if_neg c_4] | (dsimp only; rw [if_neg c_4])); (first | rw [if_neg c_8] | (dsimp only; rw [if_neg c_8])); (first | rw [if_neg c_13] | (dsimp only; rw [if_neg c_13])); (first | done | rfl | (dsimp only; done)))
def FX7_closeAll_2 : Nat → Int32 → Nat → xD → xD
  | 0, _, _, x => x
  | n + 1, u, a2, x =>
    if 4 ≤ a2 then
      x
    else
      let z4 := FX7_set (u) (nI (a2)) (-1) (nI (0)) x
      FX7_closeAll_2 n u (a2 + 1) z4
def DX7_closeAll_2 : Nat → Int32 → Nat → xD → Prop
  | 0, _, _, _ => False
  | n + 1, u, a2, x =>
    (a2 < 2147483648) ∧
    ((4 ≤ a2) →
      True) ∧
    (¬ (4 ≤ a2) →
      (DX7_set (u) (nI (a2)) (-1) (nI (0)) x) ∧
      let z4 := FX7_set (u) (nI (a2)) (-1) (nI (0)) x
      DX7_closeAll_2 n u (a2 + 1) z4)
set_option maxRecDepth 100000 in
set_option maxHeartbeats 4000000 in
theorem w_X7_closeAll_2 {tt : Prop} : ∀ (n : Nat) (u : Int32) (a2 : Nat) (x : xD) (hD : DX7_closeAll_2 n u a2 x), xV mX7_closeAll 2 tt (xQv (FX7_closeAll_2 n u a2 x)) 2 [some (.ref (353 : Nat)), some (.int (u)), some (.int (nI (a2)))] [] x := by
  intro n
  induction n with
  | zero => intros; rename_i hD; exact hD.elim
  | succ n ih =>
    intro u a2 x hD
    refine ab_iload_n (pc := 2) dX7_closeAll_2 rfl rfl ?_
    refine ab_iconst (pc := 3) (v := nI 4) dX7_closeAll_3 (by decide) ?_
    obtain ⟨o1, hD⟩ := hD
    refine ab_icmp_geN (pc := 4) (tgt := 21) dX7_closeAll_4 (by decide) o1 (by decide) (fun c_4 => ?_) (fun c_4 => ?_)
    · refine xo_vr (pc := 21) dX7_closeAll_21 rfl ?_
      (rw [FX7_closeAll_2]; (first | rw [if_pos c_4] | (dsimp only; rw [if_pos c_4])); (first | done | rfl | (dsimp only; done)))
    · replace hD := hD.2 c_4
      refine ab_aload_n (pc := 7) dX7_closeAll_7 rfl rfl ?_
      refine ab_iload_n (pc := 8) dX7_closeAll_8 rfl rfl ?_
      refine ab_iload_n (pc := 9) dX7_closeAll_9 rfl rfl ?_
      refine ab_iconst (pc := 10) (v := -1) dX7_closeAll_10 (by decide) ?_
      refine ab_iconst (pc := 11) (v := nI 0) dX7_closeAll_11 (by decide) ?_
      obtain ⟨o2, hD⟩ := hD
      have e3 := c_X7_set (tt := tt) _ _ _ _ _ o2
      refine xo_invv (N := mX7_set) (pc := 12) (d' := 1) (av := [_, _, _, _]) dX7_closeAll_12 ml_X7_26 fv_X7_set (by decide) (Nat.le_of_ble_eq_true rfl) (by decide) e3 ?_
      refine ab_iinc (pc := 15) dX7_closeAll_15 rfl (ab_inc _) (Nat.le_of_ble_eq_true rfl) rfl ?_
      refine ab_goto (pc := 18) (tgt := 2) dX7_closeAll_18 (by decide) ?_
      refine xo_eqv ?_ (ih _ _ _ hD)
      (rw [FX7_closeAll_2]; (first | rw [if_neg c_4] | (dsimp only; rw [if_neg c_4])); (first | done | rfl | (dsimp only; done)))
def FX7_closeAll (u : Int32) (x : xD) : xD :=
  FX7_closeAll_2 5 u 0 x
def DX7_closeAll (u : Int32) (x : xD) : Prop :=
  DX7_closeAll_2 5 u 0 x
set_option maxRecDepth 100000 in
set_option maxHeartbeats 4000000 in
theorem c_X7_closeAll {tt : Prop} (u : Int32) (x : xD) (hD : DX7_closeAll u x) : ab_Met mX7_closeAll 2 0 0 tt [.ref (353 : Nat), .int (u)] (sX x) (xQv (FX7_closeAll u x)) := by
  refine ab_Met.of rfl (Nat.le_of_ble_eq_true rfl) ?_
  show xV mX7_closeAll 2 tt (xQv (FX7_closeAll u x)) 0 [some (.ref (353 : Nat)), some (.int (u)), none] [] x
  refine ab_iconst (pc := 0) (v := nI 0) dX7_closeAll_0 (by decide) ?_
  refine ab_istore_n (pc := 1) dX7_closeAll_1 rfl (Nat.le_of_ble_eq_true rfl) rfl ?_
  refine xo_eqv ?_ (w_X7_closeAll_2 5 _ _ _ hD)
  first | rfl | (rw [FX7_closeAll]; done) | (rw [FX7_closeAll]; rfl)
def FX7_copyAll_2 : Nat → Int32 → Int32 → Nat → xD → xD
  | 0, _, _, _, x => x
  | n + 1, u, t, a3, x =>
    if 4 ≤ a3 then
      x
    else
      let z8 := FX7_set (t) (nI (a3)) (FX7_fileAt (u) (nI (a3)) x) (FX7_placeAt (u) (nI (a3)) x) x
      FX7_copyAll_2 n u t (a3 + 1) z8
def DX7_copyAll_2 : Nat → Int32 → Int32 → Nat → xD → Prop
  | 0, _, _, _, _ => False
  | n + 1, u, t, a3, x =>
    (a3 < 2147483648) ∧
    ((4 ≤ a3) →
      True) ∧
    (¬ (4 ≤ a3) →
      (DX7_fileAt (u) (nI (a3)) x) ∧
      (DX7_placeAt (u) (nI (a3)) x) ∧
      (DX7_set (t) (nI (a3)) (FX7_fileAt (u) (nI (a3)) x) (FX7_placeAt (u) (nI (a3)) x) x) ∧
      let z8 := FX7_set (t) (nI (a3)) (FX7_fileAt (u) (nI (a3)) x) (FX7_placeAt (u) (nI (a3)) x) x
      DX7_copyAll_2 n u t (a3 + 1) z8)
set_option maxRecDepth 100000 in
set_option maxHeartbeats 4000000 in
theorem w_X7_copyAll_2 {tt : Prop} : ∀ (n : Nat) (u : Int32) (t : Int32) (a3 : Nat) (x : xD) (hD : DX7_copyAll_2 n u t a3 x), xV mX7_copyAll 3 tt (xQv (FX7_copyAll_2 n u t a3 x)) 2 [some (.ref (353 : Nat)), some (.int (u)), some (.int (t)), some (.int (nI (a3)))] [] x := by
  intro n
  induction n with
  | zero => intros; rename_i hD; exact hD.elim
  | succ n ih =>
    intro u t a3 x hD
    refine ab_iload_n (pc := 2) dX7_copyAll_2 rfl rfl ?_
    refine ab_iconst (pc := 3) (v := nI 4) dX7_copyAll_3 (by decide) ?_
    obtain ⟨o1, hD⟩ := hD
    refine ab_icmp_geN (pc := 4) (tgt := 31) dX7_copyAll_4 (by decide) o1 (by decide) (fun c_4 => ?_) (fun c_4 => ?_)
    · refine xo_vr (pc := 31) dX7_copyAll_31 rfl ?_
      (rw [FX7_copyAll_2]; (first | rw [if_pos c_4] | (dsimp only; rw [if_pos c_4])); (first | done | rfl | (dsimp only; done)))
    · replace hD := hD.2 c_4
      refine ab_aload_n (pc := 7) dX7_copyAll_7 rfl rfl ?_
      refine ab_iload_n (pc := 8) dX7_copyAll_8 rfl rfl ?_
      refine ab_iload_n (pc := 9) dX7_copyAll_9 rfl rfl ?_
      refine ab_aload_n (pc := 10) dX7_copyAll_10 rfl rfl ?_
      refine ab_iload_n (pc := 11) dX7_copyAll_11 rfl rfl ?_
      refine ab_iload_n (pc := 12) dX7_copyAll_12 rfl rfl ?_
      obtain ⟨o2, hD⟩ := hD
      have e3 := c_X7_fileAt (tt := tt) _ _ _ o2
      refine xo_invr (N := mX7_fileAt) (pc := 13) (d' := 2) (av := [_, _]) dX7_copyAll_13 ml_X7_30 fv_X7_fileAt (by decide) (Nat.le_of_ble_eq_true rfl) (by decide) e3 ?_
      refine ab_aload_n (pc := 16) dX7_copyAll_16 rfl rfl ?_
      refine ab_iload_n (pc := 17) dX7_copyAll_17 rfl rfl ?_
      refine ab_iload_n (pc := 18) dX7_copyAll_18 rfl rfl ?_
      obtain ⟨o4, hD⟩ := hD
      have e5 := c_X7_placeAt (tt := tt) _ _ _ o4
      refine xo_invr (N := mX7_placeAt) (pc := 19) (d' := 2) (av := [_, _]) dX7_copyAll_19 ml_X7_33 fv_X7_placeAt (by decide) (Nat.le_of_ble_eq_true rfl) (by decide) e5 ?_
      obtain ⟨o6, hD⟩ := hD
      have e7 := c_X7_set (tt := tt) _ _ _ _ _ o6
      refine xo_invv (N := mX7_set) (pc := 22) (d' := 1) (av := [_, _, _, _]) dX7_copyAll_22 ml_X7_26 fv_X7_set (by decide) (Nat.le_of_ble_eq_true rfl) (by decide) e7 ?_
      refine ab_iinc (pc := 25) dX7_copyAll_25 rfl (ab_inc _) (Nat.le_of_ble_eq_true rfl) rfl ?_
      refine ab_goto (pc := 28) (tgt := 2) dX7_copyAll_28 (by decide) ?_
      refine xo_eqv ?_ (ih _ _ _ _ hD)
      (rw [FX7_copyAll_2]; (first | rw [if_neg c_4] | (dsimp only; rw [if_neg c_4])); (first | done | rfl | (dsimp only; done)))
def FX7_copyAll (u : Int32) (t : Int32) (x : xD) : xD :=
  FX7_copyAll_2 5 u t 0 x
def DX7_copyAll (u : Int32) (t : Int32) (x : xD) : Prop :=
  DX7_copyAll_2 5 u t 0 x
set_option maxRecDepth 100000 in
set_option maxHeartbeats 4000000 in
theorem c_X7_copyAll {tt : Prop} (u : Int32) (t : Int32) (x : xD) (hD : DX7_copyAll u t x) : ab_Met mX7_copyAll 3 0 0 tt [.ref (353 : Nat), .int (u), .int (t)] (sX x) (xQv (FX7_copyAll u t x)) := by
  refine ab_Met.of rfl (Nat.le_of_ble_eq_true rfl) ?_
  show xV mX7_copyAll 3 tt (xQv (FX7_copyAll u t x)) 0 [some (.ref (353 : Nat)), some (.int (u)), some (.int (t)), none] [] x
  refine ab_iconst (pc := 0) (v := nI 0) dX7_copyAll_0 (by decide) ?_
  refine ab_istore_n (pc := 1) dX7_copyAll_1 rfl (Nat.le_of_ble_eq_true rfl) rfl ?_
  refine xo_eqv ?_ (w_X7_copyAll_2 5 _ _ _ _ hD)
  first | rfl | (rw [FX7_copyAll]; done) | (rw [FX7_copyAll]; rfl)
