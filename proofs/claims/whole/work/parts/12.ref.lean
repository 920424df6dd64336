def FfloorMod_7cf53 (x : Int32) (y : Int32) : Int32 :=
  if 0 ≤ ((x) ^^^ (y)) then
    ((x) - (x) / (y) * (y))
  else
    if ((x) - (x) / (y) * (y)) = 0 then
      ((x) - (x) / (y) * (y))
    else
      (((x) - (x) / (y) * (y)) + (y))
def DfloorMod_7cf53 (x : Int32) (y : Int32) (m : mD) : Prop :=
  (¬ (y) = 0) ∧
  True
set_option maxRecDepth 100000 in
set_option maxHeartbeats 4000000 in
theorem c_floorMod_7cf53 {tt : Prop} (x : Int32) (y : Int32) (m : mD) (hD : DfloorMod_7cf53 x y m) : ab_Met mJ9_floorMod_7cf53 0 0 0 tt [.int (x), .int (y)] (sM m) (mQi (FfloorMod_7cf53 x y, m)) := by
  refine ab_Met.ofF (by decide +kernel) (Nat.le_of_ble_eq_true rfl) ?_
  show mV mJ9_floorMod_7cf53 0 tt (mQi (FfloorMod_7cf53 x y, m)) 0 [some (.int (x)), some (.int (y)), none] [] m
  refine ab_iload_n (pc := 0) dJ9_floorMod_7cf53_0 rfl rfl ?_
  refine ab_iload_n (pc := 1) dJ9_floorMod_7cf53_1 rfl rfl ?_
  obtain ⟨o1, hD⟩ := hD
  refine ab_irem (pc := 2) dJ9_floorMod_7cf53_2 o1 ?_
  refine ab_istore_n (pc := 3) dJ9_floorMod_7cf53_3 rfl (Nat.le_of_ble_eq_true rfl) rfl ?_
  refine ab_iload_n (pc := 4) dJ9_floorMod_7cf53_4 rfl rfl ?_
  refine ab_iload_n (pc := 5) dJ9_floorMod_7cf53_5 rfl rfl ?_
  refine ab_ixor (pc := 6) dJ9_floorMod_7cf53_6 ?_
  refine ab_if_ge (pc := 7) (tgt := 18) dJ9_floorMod_7cf53_7 (by decide) (fun c_7 => ?_) (fun c_7 => ?_)
  · refine ab_iload_n (pc := 18) dJ9_floorMod_7cf53_18 rfl rfl ?_
    refine mo_ir (pc := 19) dJ9_floorMod_7cf53_19 rfl rfl ?_
    first | (rw [FfloorMod_7cf53]; (try dsimp only); rw [if_pos c_7]; done) | (rw [FfloorMod_7cf53]; (try dsimp only); rw [if_pos c_7]; rfl)
  · refine ab_iload_n (pc := 10) dJ9_floorMod_7cf53_10 rfl rfl ?_
    refine ab_if_eq (pc := 11) (tgt := 18) dJ9_floorMod_7cf53_11 (by decide) (fun c_11 => ?_) (fun c_11 => ?_)
    · refine ab_iload_n (pc := 18) dJ9_floorMod_7cf53_18 rfl rfl ?_
      refine mo_ir (pc := 19) dJ9_floorMod_7cf53_19 rfl rfl ?_
      first | (rw [FfloorMod_7cf53]; (try dsimp only); rw [if_neg c_7, if_pos c_11]; done) | (rw [FfloorMod_7cf53]; (try dsimp only); rw [if_neg c_7, if_pos c_11]; rfl)
    · refine ab_iload_n (pc := 14) dJ9_floorMod_7cf53_14 rfl rfl ?_
      refine ab_iload_n (pc := 15) dJ9_floorMod_7cf53_15 rfl rfl ?_
      refine ab_iadd (pc := 16) dJ9_floorMod_7cf53_16 ?_
      refine mo_ir (pc := 17) dJ9_floorMod_7cf53_17 rfl rfl ?_
      first | (rw [FfloorMod_7cf53]; (try dsimp only); rw [if_neg c_7, if_neg c_11]; done) | (rw [FfloorMod_7cf53]; (try dsimp only); rw [if_neg c_7, if_neg c_11]; rfl)
def FasksDriver_20 : Nat → Nat → mD → mD
  | 0, _, m => m
  | n + 1, a1, m =>
    if 8 ≤ a1 then
      let z6 := Fsends 2 1 m
      z6
    else
      if (m 0 40) = (nI (21)) then
        let m11 := ab_up m 3 (5 + a1) (m 22 a1)
        FasksDriver_20 n (a1 + 1) m11
      else
        let m8 := ab_up m 3 (5 + a1) (nI (0))
        FasksDriver_20 n (a1 + 1) m8
def DasksDriver_20 : Nat → Nat → mD → Prop
  | 0, _, _ => False
  | n + 1, a1, m =>
    (a1 < 2147483648) ∧
    ((8 ≤ a1) →
      (Dsends 2 1 m) ∧
      let z6 := Fsends 2 1 m
      True) ∧
    (¬ (8 ≤ a1) →
      (((m 0 40) = (nI (21))) →
        (a1 < 8) ∧
        ((5 + a1) < 13) ∧
        let m11 := ab_up m 3 (5 + a1) (m 22 a1)
        DasksDriver_20 n (a1 + 1) m11) ∧
      (¬ ((m 0 40) = (nI (21))) →
        ((5 + a1) < 13) ∧
        let m8 := ab_up m 3 (5 + a1) (nI (0))
        DasksDriver_20 n (a1 + 1) m8))
set_option maxRecDepth 100000 in
set_option maxHeartbeats 4000000 in
theorem w_asksDriver_20 {tt : Prop} : ∀ (n : Nat) (a1 : Nat) (m : mD) (hD : DasksDriver_20 n a1 m), mV mX11_asksDriver 4 tt (mQv (FasksDriver_20 n a1 m)) 20 [some (.ref (0)), some (.int (nI (a1)))] [] m := by
  intro n
  induction n with
  | zero => intros; rename_i hD; exact hD.elim
  | succ n ih =>
    intro a1 m hD
    refine ab_iload_n (pc := 20) dX11_asksDriver_20 rfl rfl ?_
    refine ab_bipush (pc := 21) (v := nI 8) dX11_asksDriver_21 (by decide) ?_
    obtain ⟨o4, hD⟩ := hD
    refine ab_icmp_geN (pc := 23) (tgt := 59) dX11_asksDriver_23 (by decide) o4 (by decide) (fun c_23 => ?_) (fun c_23 => ?_)
    · replace hD := hD.1 c_23
      refine ab_aload_n (pc := 59) dX11_asksDriver_59 rfl rfl ?_
      refine ab_iconst (pc := 60) (v := nI 2) dX11_asksDriver_60 (by decide) ?_
      refine ab_iconst (pc := 61) (v := nI 1) dX11_asksDriver_61 (by decide) ?_
      obtain ⟨o5, hD⟩ := hD
      refine mo_invv (N := mX11_sends) (pc := 62) (d' := 3) (av := [_, _]) dX11_asksDriver_62 ml_X11_57 fv_X11_sends (Nat.le_of_ble_eq_true rfl) (by decide) (c_sends _ _ _ o5) ?_
      refine mo_vr (pc := 65) dX11_asksDriver_65 rfl ?_
      first | (rw [FasksDriver_20]; (try dsimp only); rw [if_pos c_23]; done) | (rw [FasksDriver_20]; (try dsimp only); rw [if_pos c_23]; rfl)
    · replace hD := hD.2 c_23
      refine ab_aload_n (pc := 26) dX11_asksDriver_26 rfl rfl ?_
      refine mo_gr (pc := 27) dX11_asksDriver_27 fl_X11_7 rfl rfl ?_
      refine ab_iconst (pc := 30) (v := nI 5) dX11_asksDriver_30 (by decide) ?_
      refine ab_iload_n (pc := 31) dX11_asksDriver_31 rfl rfl ?_
      refine ab_iaddN (pc := 32) dX11_asksDriver_32 ?_
      refine ab_aload_n (pc := 33) dX11_asksDriver_33 rfl rfl ?_
      refine mo_gi (pc := 34) dX11_asksDriver_34 fl_X11_186 rfl ?_
      refine ab_bipush (pc := 37) (v := nI 21) dX11_asksDriver_37 (by decide) ?_
      refine ab_icmp_ne (pc := 39) (tgt := 51) dX11_asksDriver_39 (by decide) (fun c_39 => ?_) (fun c_39 => ?_)
      · replace hD := hD.2 c_39
        refine ab_iconst (pc := 51) (v := nI 0) dX11_asksDriver_51 (by decide) ?_
        obtain ⟨o7, hD⟩ := hD
        refine mo_ist (pc := 52) dX11_asksDriver_52 (by decide) rfl o7 (by decide) ?_
        refine ab_iinc (pc := 53) dX11_asksDriver_53 rfl (ab_inc _) (Nat.le_of_ble_eq_true rfl) rfl ?_
        refine ab_goto (pc := 56) (tgt := 20) dX11_asksDriver_56 (by decide) ?_
        refine mo_eqv ?_ (ih _ _ hD)
        first | (rw [FasksDriver_20]; (try dsimp only); rw [if_neg c_23, if_neg c_39]; done) | (rw [FasksDriver_20]; (try dsimp only); rw [if_neg c_23, if_neg c_39]; rfl)
      · replace hD := hD.1 c_39
        refine ab_aload_n (pc := 42) dX11_asksDriver_42 rfl rfl ?_
        refine mo_gr (pc := 43) dX11_asksDriver_43 fl_X11_116 rfl rfl ?_
        refine ab_iload_n (pc := 46) dX11_asksDriver_46 rfl rfl ?_
        obtain ⟨o9, hD⟩ := hD
        refine mo_ild (pc := 47) dX11_asksDriver_47 (by decide) rfl o9 (by decide) ?_
        refine ab_goto (pc := 48) (tgt := 52) dX11_asksDriver_48 (by decide) ?_
        obtain ⟨o10, hD⟩ := hD
        refine mo_ist (pc := 52) dX11_asksDriver_52 (by decide) rfl o10 (by decide) ?_
        refine ab_iinc (pc := 53) dX11_asksDriver_53 rfl (ab_inc _) (Nat.le_of_ble_eq_true rfl) rfl ?_
        refine ab_goto (pc := 56) (tgt := 20) dX11_asksDriver_56 (by decide) ?_
        refine mo_eqv ?_ (ih _ _ hD)
        first | (rw [FasksDriver_20]; (try dsimp only); rw [if_neg c_23, if_pos c_39]; done) | (rw [FasksDriver_20]; (try dsimp only); rw [if_neg c_23, if_pos c_39]; rfl)
def FasksDriver  (m : mD) : mD :=
  let m1 := ab_up m 0 35 (nI (1))
  let z3 := Fdrafts (m1 0 40) (m1 0 41) (nI (0)) m1
  FasksDriver_20 9 0 z3
def DasksDriver  (m : mD) : Prop :=
  let m1 := ab_up m 0 35 (nI (1))
  (Ddrafts (m1 0 40) (m1 0 41) (nI (0)) m1) ∧
  let z3 := Fdrafts (m1 0 40) (m1 0 41) (nI (0)) m1
  DasksDriver_20 9 0 z3
set_option maxRecDepth 100000 in
set_option maxHeartbeats 4000000 in
theorem c_asksDriver {tt : Prop}  (m : mD) (hD : DasksDriver  m) : ab_Met mX11_asksDriver 4 0 0 tt [.ref (0)] (sM m) (mQv (FasksDriver  m)) := by
  refine ab_Met.of rfl (Nat.le_of_ble_eq_true rfl) ?_
  show mV mX11_asksDriver 4 tt (mQv (FasksDriver  m)) 0 [some (.ref (0)), none] [] m
  refine ab_aload_n (pc := 0) dX11_asksDriver_0 rfl rfl ?_
  refine ab_iconst (pc := 1) (v := nI 1) dX11_asksDriver_1 (by decide) ?_
  refine mo_pi (pc := 2) dX11_asksDriver_2 fl_X11_166 rfl rfl (ab_ok_b (Or.inr rfl)) ?_
  refine ab_aload_n (pc := 5) dX11_asksDriver_5 rfl rfl ?_
  refine ab_aload_n (pc := 6) dX11_asksDriver_6 rfl rfl ?_
  refine mo_gi (pc := 7) dX11_asksDriver_7 fl_X11_186 rfl ?_
  refine ab_aload_n (pc := 10) dX11_asksDriver_10 rfl rfl ?_
  refine mo_gi (pc := 11) dX11_asksDriver_11 fl_X11_189 rfl ?_
  refine ab_iconst (pc := 14) (v := nI 0) dX11_asksDriver_14 (by decide) ?_
  obtain ⟨o2, hD⟩ := hD
  refine mo_invv (N := mX11_drafts) (pc := 15) (d' := 0) (av := [_, _, _]) dX11_asksDriver_15 ml_X11_152 fv_X11_drafts (Nat.le_of_ble_eq_true rfl) (by decide) (c_drafts _ _ _ _ o2) ?_
  refine ab_iconst (pc := 18) (v := nI 0) dX11_asksDriver_18 (by decide) ?_
  refine ab_istore_n (pc := 19) dX11_asksDriver_19 rfl (Nat.le_of_ble_eq_true rfl) rfl ?_
  refine mo_eqv ?_ (w_asksDriver_20 9 _ _ hD)
  first | rfl | (rw [FasksDriver]; done) | (rw [FasksDriver]; rfl)
def Fcopies_2 : Nat → Nat → Nat → Nat → mD → mD
  | 0, _, _, _, m => m
  | n + 1, a, b, a3, m =>
    if 4 ≤ a3 then
      m
    else
      let m4 := ab_up m 14 ((4 * b) + a3) (m 14 ((4 * a) + a3))
      let m7 := ab_up m4 15 ((4 * b) + a3) (m4 15 ((4 * a) + a3))
      Fcopies_2 n a b (a3 + 1) m7
def Dcopies_2 : Nat → Nat → Nat → Nat → mD → Prop
  | 0, _, _, _, _ => False
  | n + 1, a, b, a3, m =>
    (a3 < 2147483648) ∧
    ((4 ≤ a3) →
      True) ∧
    (¬ (4 ≤ a3) →
      (((4 * a) + a3) < 48) ∧
      (((4 * b) + a3) < 48) ∧
      let m4 := ab_up m 14 ((4 * b) + a3) (m 14 ((4 * a) + a3))
      (((4 * a) + a3) < 48) ∧
      (((4 * b) + a3) < 48) ∧
      let m7 := ab_up m4 15 ((4 * b) + a3) (m4 15 ((4 * a) + a3))
      Dcopies_2 n a b (a3 + 1) m7)
set_option maxRecDepth 100000 in
set_option maxHeartbeats 4000000 in
theorem w_copies_2 {tt : Prop} : ∀ (n : Nat) (a : Nat) (b : Nat) (a3 : Nat) (m : mD) (hD : Dcopies_2 n a b a3 m), mV mX11_copies 0 tt (mQv (Fcopies_2 n a b a3 m)) 2 [some (.ref (0)), some (.int (nI (a))), some (.int (nI (b))), some (.int (nI (a3)))] [] m := by
  intro n
  induction n with
  | zero => intros; rename_i hD; exact hD.elim
  | succ n ih =>
    intro a b a3 m hD
    refine ab_iload_n (pc := 2) dX11_copies_2 rfl rfl ?_
    refine ab_iconst (pc := 3) (v := nI 4) dX11_copies_3 (by decide) ?_
    obtain ⟨o1, hD⟩ := hD
    refine ab_icmp_geN (pc := 4) (tgt := 53) dX11_copies_4 (by decide) o1 (by decide) (fun c_4 => ?_) (fun c_4 => ?_)
    · refine mo_vr (pc := 53) dX11_copies_53 rfl ?_
      first | (rw [Fcopies_2]; (try dsimp only); rw [if_pos c_4]; done) | (rw [Fcopies_2]; (try dsimp only); rw [if_pos c_4]; rfl)
    · replace hD := hD.2 c_4
      refine ab_aload_n (pc := 7) dX11_copies_7 rfl rfl ?_
      refine mo_gr (pc := 8) dX11_copies_8 fl_X11_92 rfl rfl ?_
      refine ab_iconst (pc := 11) (v := nI 4) dX11_copies_11 (by decide) ?_
      refine ab_iload_n (pc := 12) dX11_copies_12 rfl rfl ?_
      refine ab_imulN (pc := 13) dX11_copies_13 ?_
      refine ab_iload_n (pc := 14) dX11_copies_14 rfl rfl ?_
      refine ab_iaddN (pc := 15) dX11_copies_15 ?_
      refine ab_aload_n (pc := 16) dX11_copies_16 rfl rfl ?_
      refine mo_gr (pc := 17) dX11_copies_17 fl_X11_92 rfl rfl ?_
      refine ab_iconst (pc := 20) (v := nI 4) dX11_copies_20 (by decide) ?_
      refine ab_iload_n (pc := 21) dX11_copies_21 rfl rfl ?_
      refine ab_imulN (pc := 22) dX11_copies_22 ?_
      refine ab_iload_n (pc := 23) dX11_copies_23 rfl rfl ?_
      refine ab_iaddN (pc := 24) dX11_copies_24 ?_
      obtain ⟨o2, hD⟩ := hD
      refine mo_ild (pc := 25) dX11_copies_25 (by decide) rfl o2 (by decide) ?_
      obtain ⟨o3, hD⟩ := hD
      refine mo_ist (pc := 26) dX11_copies_26 (by decide) rfl o3 (by decide) ?_
      refine ab_aload_n (pc := 27) dX11_copies_27 rfl rfl ?_
      refine mo_gr (pc := 28) dX11_copies_28 fl_X11_95 rfl rfl ?_
      refine ab_iconst (pc := 31) (v := nI 4) dX11_copies_31 (by decide) ?_
      refine ab_iload_n (pc := 32) dX11_copies_32 rfl rfl ?_
      refine ab_imulN (pc := 33) dX11_copies_33 ?_
      refine ab_iload_n (pc := 34) dX11_copies_34 rfl rfl ?_
      refine ab_iaddN (pc := 35) dX11_copies_35 ?_
      refine ab_aload_n (pc := 36) dX11_copies_36 rfl rfl ?_
      refine mo_gr (pc := 37) dX11_copies_37 fl_X11_95 rfl rfl ?_
      refine ab_iconst (pc := 40) (v := nI 4) dX11_copies_40 (by decide) ?_
      refine ab_iload_n (pc := 41) dX11_copies_41 rfl rfl ?_
      refine ab_imulN (pc := 42) dX11_copies_42 ?_
      refine ab_iload_n (pc := 43) dX11_copies_43 rfl rfl ?_
      refine ab_iaddN (pc := 44) dX11_copies_44 ?_
      obtain ⟨o5, hD⟩ := hD
      refine mo_ild (pc := 45) dX11_copies_45 (by decide) rfl o5 (by decide) ?_
      obtain ⟨o6, hD⟩ := hD
      refine mo_ist (pc := 46) dX11_copies_46 (by decide) rfl o6 (by decide) ?_
      refine ab_iinc (pc := 47) dX11_copies_47 rfl (ab_inc _) (Nat.le_of_ble_eq_true rfl) rfl ?_
      refine ab_goto (pc := 50) (tgt := 2) dX11_copies_50 (by decide) ?_
      refine mo_eqv ?_ (ih _ _ _ _ hD)
      first | (rw [Fcopies_2]; (try dsimp only); rw [if_neg c_4]; done) | (rw [Fcopies_2]; (try dsimp only); rw [if_neg c_4]; rfl)
def Fcopies (a : Nat) (b : Nat) (m : mD) : mD :=
  Fcopies_2 5 a b 0 m
def Dcopies (a : Nat) (b : Nat) (m : mD) : Prop :=
  Dcopies_2 5 a b 0 m
set_option maxRecDepth 100000 in
set_option maxHeartbeats 4000000 in
theorem c_copies {tt : Prop} (a : Nat) (b : Nat) (m : mD) (hD : Dcopies a b m) : ab_Met mX11_copies 0 0 0 tt [.ref (0), .int (nI (a)), .int (nI (b))] (sM m) (mQv (Fcopies a b m)) := by
  refine ab_Met.of rfl (Nat.le_of_ble_eq_true rfl) ?_
  show mV mX11_copies 0 tt (mQv (Fcopies a b m)) 0 [some (.ref (0)), some (.int (nI (a))), some (.int (nI (b))), none] [] m
  refine ab_iconst (pc := 0) (v := nI 0) dX11_copies_0 (by decide) ?_
  refine ab_istore_n (pc := 1) dX11_copies_1 rfl (Nat.le_of_ble_eq_true rfl) rfl ?_
  refine mo_eqv ?_ (w_copies_2 5 _ _ _ _ hD)
  first | rfl | (rw [Fcopies]; done) | (rw [Fcopies]; rfl)
def FclosesAll_2 : Nat → Nat → Nat → mD → mD
  | 0, _, _, m => m
  | n + 1, u, a2, m =>
    if 4 ≤ a2 then
      m
    else
      let m3 := ab_up m 14 ((4 * u) + a2) (-1)
      FclosesAll_2 n u (a2 + 1) m3
def DclosesAll_2 : Nat → Nat → Nat → mD → Prop
  | 0, _, _, _ => False
  | n + 1, u, a2, m =>
    (a2 < 2147483648) ∧
    ((4 ≤ a2) →
      True) ∧
    (¬ (4 ≤ a2) →
      (((4 * u) + a2) < 48) ∧
      let m3 := ab_up m 14 ((4 * u) + a2) (-1)
      DclosesAll_2 n u (a2 + 1) m3)
set_option maxRecDepth 100000 in
set_option maxHeartbeats 4000000 in
theorem w_closesAll_2 {tt : Prop} : ∀ (n : Nat) (u : Nat) (a2 : Nat) (m : mD) (hD : DclosesAll_2 n u a2 m), mV mX11_closesAll 0 tt (mQv (FclosesAll_2 n u a2 m)) 2 [some (.ref (0)), some (.int (nI (u))), some (.int (nI (a2)))] [] m := by
  intro n
  induction n with
  | zero => intros; rename_i hD; exact hD.elim
  | succ n ih =>
    intro u a2 m hD
    refine ab_iload_n (pc := 2) dX11_closesAll_2 rfl rfl ?_
    refine ab_iconst (pc := 3) (v := nI 4) dX11_closesAll_3 (by decide) ?_
    obtain ⟨o1, hD⟩ := hD
    refine ab_icmp_geN (pc := 4) (tgt := 24) dX11_closesAll_4 (by decide) o1 (by decide) (fun c_4 => ?_) (fun c_4 => ?_)
    · refine mo_vr (pc := 24) dX11_closesAll_24 rfl ?_
      first | (rw [FclosesAll_2]; (try dsimp only); rw [if_pos c_4]; done) | (rw [FclosesAll_2]; (try dsimp only); rw [if_pos c_4]; rfl)
    · replace hD := hD.2 c_4
      refine ab_aload_n (pc := 7) dX11_closesAll_7 rfl rfl ?_
      refine mo_gr (pc := 8) dX11_closesAll_8 fl_X11_92 rfl rfl ?_
      refine ab_iconst (pc := 11) (v := nI 4) dX11_closesAll_11 (by decide) ?_
      refine ab_iload_n (pc := 12) dX11_closesAll_12 rfl rfl ?_
      refine ab_imulN (pc := 13) dX11_closesAll_13 ?_
      refine ab_iload_n (pc := 14) dX11_closesAll_14 rfl rfl ?_
      refine ab_iaddN (pc := 15) dX11_closesAll_15 ?_
      refine ab_iconst (pc := 16) (v := -1) dX11_closesAll_16 (by decide) ?_
      obtain ⟨o2, hD⟩ := hD
      refine mo_ist (pc := 17) dX11_closesAll_17 (by decide) rfl o2 (by decide) ?_
      refine ab_iinc (pc := 18) dX11_closesAll_18 rfl (ab_inc _) (Nat.le_of_ble_eq_true rfl) rfl ?_
      refine ab_goto (pc := 21) (tgt := 2) dX11_closesAll_21 (by decide) ?_
      refine mo_eqv ?_ (ih _ _ _ hD)
      first | (rw [FclosesAll_2]; (try dsimp only); rw [if_neg c_4]; done) | (rw [FclosesAll_2]; (try dsimp only); rw [if_neg c_4]; rfl)
def FclosesAll (u : Nat) (m : mD) : mD :=
  FclosesAll_2 5 u 0 m
def DclosesAll (u : Nat) (m : mD) : Prop :=
  DclosesAll_2 5 u 0 m
set_option maxRecDepth 100000 in
set_option maxHeartbeats 4000000 in
theorem c_closesAll {tt : Prop} (u : Nat) (m : mD) (hD : DclosesAll u m) : ab_Met mX11_closesAll 0 0 0 tt [.ref (0), .int (nI (u))] (sM m) (mQv (FclosesAll u m)) := by
  refine ab_Met.of rfl (Nat.le_of_ble_eq_true rfl) ?_
  show mV mX11_closesAll 0 tt (mQv (FclosesAll u m)) 0 [some (.ref (0)), some (.int (nI (u))), none] [] m
  refine ab_iconst (pc := 0) (v := nI 0) dX11_closesAll_0 (by decide) ?_
  refine ab_istore_n (pc := 1) dX11_closesAll_1 rfl (Nat.le_of_ble_eq_true rfl) rfl ?_
  refine mo_eqv ?_ (w_closesAll_2 5 _ _ _ hD)
  first | rfl | (rw [FclosesAll]; done) | (rw [FclosesAll]; rfl)
def Fopens_14 : Nat → Nat → Int32 → Nat → mD → Int32 × mD
  | 0, _, _, _, m => (0, m)
  | n + 1, u, a, a3, m =>
    if 4 ≤ a3 then
      if a3 = 4 then
        ((-2), m)
      else
        if (m 16 ((a).toNatClampNeg)) = 0 then
          if (FfilesThere  m) = (nI (8)) then
            ((-3), m)
          else
            let m12 := ab_up m 16 ((a).toNatClampNeg) (nI (1))
            let m15 := ab_up m12 17 ((a).toNatClampNeg) (nI (0))
            let m17 := ab_up m15 14 ((4 * u) + a3) (a)
            let m19 := ab_up m17 15 ((4 * u) + a3) (nI (0))
            ((nI (a3)), m19)
        else
          let m6 := ab_up m 14 ((4 * u) + a3) (a)
          let m8 := ab_up m6 15 ((4 * u) + a3) (nI (0))
          ((nI (a3)), m8)
    else
      if (m 14 ((4 * u) + a3)) < 0 then
        if a3 = 4 then
          ((-2), m)
        else
          if (m 16 ((a).toNatClampNeg)) = 0 then
            if (FfilesThere  m) = (nI (8)) then
              ((-3), m)
            else
              let m31 := ab_up m 16 ((a).toNatClampNeg) (nI (1))
              let m34 := ab_up m31 17 ((a).toNatClampNeg) (nI (0))
              let m36 := ab_up m34 14 ((4 * u) + a3) (a)
              let m38 := ab_up m36 15 ((4 * u) + a3) (nI (0))
              ((nI (a3)), m38)
          else
            let m25 := ab_up m 14 ((4 * u) + a3) (a)
            let m27 := ab_up m25 15 ((4 * u) + a3) (nI (0))
            ((nI (a3)), m27)
      else
        Fopens_14 n u a (a3 + 1) m
def Dopens_14 : Nat → Nat → Int32 → Nat → mD → Prop
  | 0, _, _, _, _ => False
  | n + 1, u, a, a3, m =>
    (a3 < 2147483648) ∧
    ((4 ≤ a3) →
      (a3 < 2147483648) ∧
      ((a3 = 4) →
        True) ∧
      (¬ (a3 = 4) →
        (¬ (a) < 0) ∧
        (((a).toNatClampNeg) < 16) ∧
        (((m 16 ((a).toNatClampNeg)) = 0) →
          (DfilesThere  m) ∧
          (((FfilesThere  m) = (nI (8))) →
            True) ∧
          (¬ ((FfilesThere  m) = (nI (8))) →
            (¬ (a) < 0) ∧
            (((a).toNatClampNeg) < 16) ∧
            let m12 := ab_up m 16 ((a).toNatClampNeg) (nI (1))
            (¬ (a) < 0) ∧
            (((a).toNatClampNeg) < 16) ∧
            let m15 := ab_up m12 17 ((a).toNatClampNeg) (nI (0))
            (((4 * u) + a3) < 48) ∧
            let m17 := ab_up m15 14 ((4 * u) + a3) (a)
            (((4 * u) + a3) < 48) ∧
            let m19 := ab_up m17 15 ((4 * u) + a3) (nI (0))
            True)) ∧
        (¬ ((m 16 ((a).toNatClampNeg)) = 0) →
          (((4 * u) + a3) < 48) ∧
          let m6 := ab_up m 14 ((4 * u) + a3) (a)
          (((4 * u) + a3) < 48) ∧
          let m8 := ab_up m6 15 ((4 * u) + a3) (nI (0))
          True))) ∧
    (¬ (4 ≤ a3) →
      (((4 * u) + a3) < 48) ∧
      (((m 14 ((4 * u) + a3)) < 0) →
        (a3 < 2147483648) ∧
        ((a3 = 4) →
          True) ∧
        (¬ (a3 = 4) →
          (¬ (a) < 0) ∧
          (((a).toNatClampNeg) < 16) ∧
          (((m 16 ((a).toNatClampNeg)) = 0) →
            (DfilesThere  m) ∧
            (((FfilesThere  m) = (nI (8))) →
              True) ∧
            (¬ ((FfilesThere  m) = (nI (8))) →
              (¬ (a) < 0) ∧
              (((a).toNatClampNeg) < 16) ∧
              let m31 := ab_up m 16 ((a).toNatClampNeg) (nI (1))
              (¬ (a) < 0) ∧
              (((a).toNatClampNeg) < 16) ∧
              let m34 := ab_up m31 17 ((a).toNatClampNeg) (nI (0))
              (((4 * u) + a3) < 48) ∧
              let m36 := ab_up m34 14 ((4 * u) + a3) (a)
              (((4 * u) + a3) < 48) ∧
              let m38 := ab_up m36 15 ((4 * u) + a3) (nI (0))
              True)) ∧
          (¬ ((m 16 ((a).toNatClampNeg)) = 0) →
            (((4 * u) + a3) < 48) ∧
            let m25 := ab_up m 14 ((4 * u) + a3) (a)
            (((4 * u) + a3) < 48) ∧
            let m27 := ab_up m25 15 ((4 * u) + a3) (nI (0))
            True))) ∧
      (¬ ((m 14 ((4 * u) + a3)) < 0) →
        Dopens_14 n u a (a3 + 1) m))
set_option maxRecDepth 100000 in
set_option maxHeartbeats 4000000 in
theorem w_opens_14 {tt : Prop} : ∀ (n : Nat) (u : Nat) (a : Int32) (a3 : Nat) (m : mD) (hD : Dopens_14 n u a a3 m), mV mX11_opens 1 tt (mQi (Fopens_14 n u a a3 m)) 14 [some (.ref (0)), some (.int (nI (u))), some (.int (a)), some (.int (nI (a3)))] [] m := by
  intro n
  induction n with
  | zero => intros; rename_i hD; exact hD.elim
  | succ n ih =>
    intro u a a3 m hD
    refine ab_iload_n (pc := 14) dX11_opens_14 rfl rfl ?_
    refine ab_iconst (pc := 15) (v := nI 4) dX11_opens_15 (by decide) ?_
    obtain ⟨o1, hD⟩ := hD
    refine ab_icmp_geN (pc := 16) (tgt := 38) dX11_opens_16 (by decide) o1 (by decide) (fun c_16 => ?_) (fun c_16 => ?_)
    · replace hD := hD.1 c_16
      refine ab_iload_n (pc := 38) dX11_opens_38 rfl rfl ?_
      refine ab_iconst (pc := 39) (v := nI 4) dX11_opens_39 (by decide) ?_
      obtain ⟨o2, hD⟩ := hD
      refine ab_icmp_neN (pc := 40) (tgt := 46) dX11_opens_40 (by decide) o2 (by decide) (fun c_40 => ?_) (fun c_40 => ?_)
      · replace hD := hD.2 c_40
        refine ab_aload_n (pc := 46) dX11_opens_46 rfl rfl ?_
        refine mo_gr (pc := 47) dX11_opens_47 fl_X11_98 rfl rfl ?_
        refine ab_iload_n (pc := 50) dX11_opens_50 rfl rfl ?_
        obtain ⟨o3, hD⟩ := hD
        refine ab_nat1 (ab_nat o3) ?_
        obtain ⟨o4, hD⟩ := hD
        refine mo_zld (pc := 51) dX11_opens_51 (by decide) rfl o4 (by decide) ?_
        refine ab_if_ne (pc := 52) (tgt := 81) dX11_opens_52 (by decide) (fun c_52 => ?_) (fun c_52 => ?_)
        · replace hD := hD.2 c_52
          refine ab_aload_n (pc := 81) dX11_opens_81 rfl rfl ?_
          refine mo_gr (pc := 82) dX11_opens_82 fl_X11_92 rfl rfl ?_
          refine ab_iconst (pc := 85) (v := nI 4) dX11_opens_85 (by decide) ?_
          refine ab_iload_n (pc := 86) dX11_opens_86 rfl rfl ?_
          refine ab_imulN (pc := 87) dX11_opens_87 ?_
          refine ab_iload_n (pc := 88) dX11_opens_88 rfl rfl ?_
          refine ab_iaddN (pc := 89) dX11_opens_89 ?_
          refine ab_iload_n (pc := 90) dX11_opens_90 rfl rfl ?_
          obtain ⟨o5, hD⟩ := hD
          refine mo_ist (pc := 91) dX11_opens_91 (by decide) rfl o5 (by decide) ?_
          refine ab_aload_n (pc := 92) dX11_opens_92 rfl rfl ?_
          refine mo_gr (pc := 93) dX11_opens_93 fl_X11_95 rfl rfl ?_
          refine ab_iconst (pc := 96) (v := nI 4) dX11_opens_96 (by decide) ?_
          refine ab_iload_n (pc := 97) dX11_opens_97 rfl rfl ?_
          refine ab_imulN (pc := 98) dX11_opens_98 ?_
          refine ab_iload_n (pc := 99) dX11_opens_99 rfl rfl ?_
          refine ab_iaddN (pc := 100) dX11_opens_100 ?_
          refine ab_iconst (pc := 101) (v := nI 0) dX11_opens_101 (by decide) ?_
          obtain ⟨o7, hD⟩ := hD
          refine mo_ist (pc := 102) dX11_opens_102 (by decide) rfl o7 (by decide) ?_
          refine ab_iload_n (pc := 103) dX11_opens_103 rfl rfl ?_
          refine mo_ir (pc := 104) dX11_opens_104 rfl rfl ?_
          first | (rw [Fopens_14]; (try dsimp only); rw [if_pos c_16, if_neg c_40, if_neg c_52]; done) | (rw [Fopens_14]; (try dsimp only); rw [if_pos c_16, if_neg c_40, if_neg c_52]; rfl)
        · replace hD := hD.1 c_52
          refine ab_aload_n (pc := 55) dX11_opens_55 rfl rfl ?_
          obtain ⟨o9, hD⟩ := hD
          refine mo_invr (N := mX11_filesThere) (pc := 56) (d' := 0) (av := []) dX11_opens_56 ml_X11_209 fv_X11_filesThere (Nat.le_of_ble_eq_true rfl) (by decide) (c_filesThere  _ o9) ?_
          refine ab_bipush (pc := 59) (v := nI 8) dX11_opens_59 (by decide) ?_
          refine ab_icmp_ne (pc := 61) (tgt := 67) dX11_opens_61 (by decide) (fun c_61 => ?_) (fun c_61 => ?_)
          · replace hD := hD.2 c_61
            refine ab_aload_n (pc := 67) dX11_opens_67 rfl rfl ?_
            refine mo_gr (pc := 68) dX11_opens_68 fl_X11_98 rfl rfl ?_
            refine ab_iload_n (pc := 71) dX11_opens_71 rfl rfl ?_
            refine ab_iconst (pc := 72) (v := nI 1) dX11_opens_72 (by decide) ?_
            obtain ⟨o10, hD⟩ := hD
            refine ab_nat3 (ab_nat o10) ?_
            obtain ⟨o11, hD⟩ := hD
            refine mo_zst (pc := 73) dX11_opens_73 (by decide) rfl o11 (by decide) (Or.inr rfl) ?_
            refine ab_aload_n (pc := 74) dX11_opens_74 rfl rfl ?_
            refine mo_gr (pc := 75) dX11_opens_75 fl_X11_101 rfl rfl ?_
            refine ab_iload_n (pc := 78) dX11_opens_78 rfl rfl ?_
            refine ab_iconst (pc := 79) (v := nI 0) dX11_opens_79 (by decide) ?_
            obtain ⟨o13, hD⟩ := hD
            refine ab_nat3 (ab_nat o13) ?_
            obtain ⟨o14, hD⟩ := hD
            refine mo_ist (pc := 80) dX11_opens_80 (by decide) rfl o14 (by decide) ?_
            refine ab_aload_n (pc := 81) dX11_opens_81 rfl rfl ?_
            refine mo_gr (pc := 82) dX11_opens_82 fl_X11_92 rfl rfl ?_
            refine ab_iconst (pc := 85) (v := nI 4) dX11_opens_85 (by decide) ?_
            refine ab_iload_n (pc := 86) dX11_opens_86 rfl rfl ?_
            refine ab_imulN (pc := 87) dX11_opens_87 ?_
            refine ab_iload_n (pc := 88) dX11_opens_88 rfl rfl ?_
            refine ab_iaddN (pc := 89) dX11_opens_89 ?_
            refine ab_iload_n (pc := 90) dX11_opens_90 rfl rfl ?_
            obtain ⟨o16, hD⟩ := hD
            refine mo_ist (pc := 91) dX11_opens_91 (by decide) rfl o16 (by decide) ?_
            refine ab_aload_n (pc := 92) dX11_opens_92 rfl rfl ?_
            refine mo_gr (pc := 93) dX11_opens_93 fl_X11_95 rfl rfl ?_
            refine ab_iconst (pc := 96) (v := nI 4) dX11_opens_96 (by decide) ?_
            refine ab_iload_n (pc := 97) dX11_opens_97 rfl rfl ?_
            refine ab_imulN (pc := 98) dX11_opens_98 ?_
            refine ab_iload_n (pc := 99) dX11_opens_99 rfl rfl ?_
            refine ab_iaddN (pc := 100) dX11_opens_100 ?_
            refine ab_iconst (pc := 101) (v := nI 0) dX11_opens_101 (by decide) ?_
            obtain ⟨o18, hD⟩ := hD
            refine mo_ist (pc := 102) dX11_opens_102 (by decide) rfl o18 (by decide) ?_
            refine ab_iload_n (pc := 103) dX11_opens_103 rfl rfl ?_
            refine mo_ir (pc := 104) dX11_opens_104 rfl rfl ?_
            first | (rw [Fopens_14]; (try dsimp only); rw [if_pos c_16, if_neg c_40, if_pos c_52, if_neg c_61]; done) | (rw [Fopens_14]; (try dsimp only); rw [if_pos c_16, if_neg c_40, if_pos c_52, if_neg c_61]; rfl)
          · refine ab_bipush (pc := 64) (v := -3) dX11_opens_64 (by decide) ?_
            refine mo_ir (pc := 66) dX11_opens_66 rfl rfl ?_
            first | (rw [Fopens_14]; (try dsimp only); rw [if_pos c_16, if_neg c_40, if_pos c_52, if_pos c_61]; done) | (rw [Fopens_14]; (try dsimp only); rw [if_pos c_16, if_neg c_40, if_pos c_52, if_pos c_61]; rfl)
      · refine ab_bipush (pc := 43) (v := -2) dX11_opens_43 (by decide) ?_
        refine mo_ir (pc := 45) dX11_opens_45 rfl rfl ?_
        first | (rw [Fopens_14]; (try dsimp only); rw [if_pos c_16, if_pos c_40]; done) | (rw [Fopens_14]; (try dsimp only); rw [if_pos c_16, if_pos c_40]; rfl)
    · replace hD := hD.2 c_16
      refine ab_aload_n (pc := 19) dX11_opens_19 rfl rfl ?_
      refine mo_gr (pc := 20) dX11_opens_20 fl_X11_92 rfl rfl ?_
      refine ab_iconst (pc := 23) (v := nI 4) dX11_opens_23 (by decide) ?_
      refine ab_iload_n (pc := 24) dX11_opens_24 rfl rfl ?_
      refine ab_imulN (pc := 25) dX11_opens_25 ?_
      refine ab_iload_n (pc := 26) dX11_opens_26 rfl rfl ?_
      refine ab_iaddN (pc := 27) dX11_opens_27 ?_
      obtain ⟨o20, hD⟩ := hD
      refine mo_ild (pc := 28) dX11_opens_28 (by decide) rfl o20 (by decide) ?_
      refine ab_if_lt (pc := 29) (tgt := 38) dX11_opens_29 (by decide) (fun c_29 => ?_) (fun c_29 => ?_)
      · replace hD := hD.1 c_29
        refine ab_iload_n (pc := 38) dX11_opens_38 rfl rfl ?_
        refine ab_iconst (pc := 39) (v := nI 4) dX11_opens_39 (by decide) ?_
        obtain ⟨o21, hD⟩ := hD
        refine ab_icmp_neN (pc := 40) (tgt := 46) dX11_opens_40 (by decide) o21 (by decide) (fun c_40 => ?_) (fun c_40 => ?_)
        · replace hD := hD.2 c_40
          refine ab_aload_n (pc := 46) dX11_opens_46 rfl rfl ?_
          refine mo_gr (pc := 47) dX11_opens_47 fl_X11_98 rfl rfl ?_
          refine ab_iload_n (pc := 50) dX11_opens_50 rfl rfl ?_
          obtain ⟨o22, hD⟩ := hD
          refine ab_nat1 (ab_nat o22) ?_
          obtain ⟨o23, hD⟩ := hD
          refine mo_zld (pc := 51) dX11_opens_51 (by decide) rfl o23 (by decide) ?_
          refine ab_if_ne (pc := 52) (tgt := 81) dX11_opens_52 (by decide) (fun c_52 => ?_) (fun c_52 => ?_)
          · replace hD := hD.2 c_52
            refine ab_aload_n (pc := 81) dX11_opens_81 rfl rfl ?_
            refine mo_gr (pc := 82) dX11_opens_82 fl_X11_92 rfl rfl ?_
            refine ab_iconst (pc := 85) (v := nI 4) dX11_opens_85 (by decide) ?_
            refine ab_iload_n (pc := 86) dX11_opens_86 rfl rfl ?_
            refine ab_imulN (pc := 87) dX11_opens_87 ?_
            refine ab_iload_n (pc := 88) dX11_opens_88 rfl rfl ?_
            refine ab_iaddN (pc := 89) dX11_opens_89 ?_
            refine ab_iload_n (pc := 90) dX11_opens_90 rfl rfl ?_
            obtain ⟨o24, hD⟩ := hD
            refine mo_ist (pc := 91) dX11_opens_91 (by decide) rfl o24 (by decide) ?_
            refine ab_aload_n (pc := 92) dX11_opens_92 rfl rfl ?_
            refine mo_gr (pc := 93) dX11_opens_93 fl_X11_95 rfl rfl ?_
            refine ab_iconst (pc := 96) (v := nI 4) dX11_opens_96 (by decide) ?_
            refine ab_iload_n (pc := 97) dX11_opens_97 rfl rfl ?_
            refine ab_imulN (pc := 98) dX11_opens_98 ?_
            refine ab_iload_n (pc := 99) dX11_opens_99 rfl rfl ?_
            refine ab_iaddN (pc := 100) dX11_opens_100 ?_
            refine ab_iconst (pc := 101) (v := nI 0) dX11_opens_101 (by decide) ?_
            obtain ⟨o26, hD⟩ := hD
            refine mo_ist (pc := 102) dX11_opens_102 (by decide) rfl o26 (by decide) ?_
            refine ab_iload_n (pc := 103) dX11_opens_103 rfl rfl ?_
            refine mo_ir (pc := 104) dX11_opens_104 rfl rfl ?_
            first | (rw [Fopens_14]; (try dsimp only); rw [if_neg c_16, if_pos c_29, if_neg c_40, if_neg c_52]; done) | (rw [Fopens_14]; (try dsimp only); rw [if_neg c_16, if_pos c_29, if_neg c_40, if_neg c_52]; rfl)
          · replace hD := hD.1 c_52
            refine ab_aload_n (pc := 55) dX11_opens_55 rfl rfl ?_
            obtain ⟨o28, hD⟩ := hD
            refine mo_invr (N := mX11_filesThere) (pc := 56) (d' := 0) (av := []) dX11_opens_56 ml_X11_209 fv_X11_filesThere (Nat.le_of_ble_eq_true rfl) (by decide) (c_filesThere  _ o28) ?_
            refine ab_bipush (pc := 59) (v := nI 8) dX11_opens_59 (by decide) ?_
            refine ab_icmp_ne (pc := 61) (tgt := 67) dX11_opens_61 (by decide) (fun c_61 => ?_) (fun c_61 => ?_)
            · replace hD := hD.2 c_61
              refine ab_aload_n (pc := 67) dX11_opens_67 rfl rfl ?_
              refine mo_gr (pc := 68) dX11_opens_68 fl_X11_98 rfl rfl ?_
              refine ab_iload_n (pc := 71) dX11_opens_71 rfl rfl ?_
              refine ab_iconst (pc := 72) (v := nI 1) dX11_opens_72 (by decide) ?_
              obtain ⟨o29, hD⟩ := hD
              refine ab_nat3 (ab_nat o29) ?_
              obtain ⟨o30, hD⟩ := hD
              refine mo_zst (pc := 73) dX11_opens_73 (by decide) rfl o30 (by decide) (Or.inr rfl) ?_
              refine ab_aload_n (pc := 74) dX11_opens_74 rfl rfl ?_
              refine mo_gr (pc := 75) dX11_opens_75 fl_X11_101 rfl rfl ?_
              refine ab_iload_n (pc := 78) dX11_opens_78 rfl rfl ?_
              refine ab_iconst (pc := 79) (v := nI 0) dX11_opens_79 (by decide) ?_
              obtain ⟨o32, hD⟩ := hD
              refine ab_nat3 (ab_nat o32) ?_
              obtain ⟨o33, hD⟩ := hD
              refine mo_ist (pc := 80) dX11_opens_80 (by decide) rfl o33 (by decide) ?_
              refine ab_aload_n (pc := 81) dX11_opens_81 rfl rfl ?_
              refine mo_gr (pc := 82) dX11_opens_82 fl_X11_92 rfl rfl ?_
              refine ab_iconst (pc := 85) (v := nI 4) dX11_opens_85 (by decide) ?_
              refine ab_iload_n (pc := 86) dX11_opens_86 rfl rfl ?_
              refine ab_imulN (pc := 87) dX11_opens_87 ?_
              refine ab_iload_n (pc := 88) dX11_opens_88 rfl rfl ?_
              refine ab_iaddN (pc := 89) dX11_opens_89 ?_
              refine ab_iload_n (pc := 90) dX11_opens_90 rfl rfl ?_
              obtain ⟨o35, hD⟩ := hD
              refine mo_ist (pc := 91) dX11_opens_91 (by decide) rfl o35 (by decide) ?_
              refine ab_aload_n (pc := 92) dX11_opens_92 rfl rfl ?_
              refine mo_gr (pc := 93) dX11_opens_93 fl_X11_95 rfl rfl ?_
              refine ab_iconst (pc := 96) (v := nI 4) dX11_opens_96 (by decide) ?_
              refine ab_iload_n (pc := 97) dX11_opens_97 rfl rfl ?_
              refine ab_imulN (pc := 98) dX11_opens_98 ?_
              refine ab_iload_n (pc := 99) dX11_opens_99 rfl rfl ?_
              refine ab_iaddN (pc := 100) dX11_opens_100 ?_
              refine ab_iconst (pc := 101) (v := nI 0) dX11_opens_101 (by decide) ?_
              obtain ⟨o37, hD⟩ := hD
              refine mo_ist (pc := 102) dX11_opens_102 (by decide) rfl o37 (by decide) ?_
              refine ab_iload_n (pc := 103) dX11_opens_103 rfl rfl ?_
              refine mo_ir (pc := 104) dX11_opens_104 rfl rfl ?_
              first | (rw [Fopens_14]; (try dsimp only); rw [if_neg c_16, if_pos c_29, if_neg c_40, if_pos c_52, if_neg c_61]; done) | (rw [Fopens_14]; (try dsimp only); rw [if_neg c_16, if_pos c_29, if_neg c_40, if_pos c_52, if_neg c_61]; rfl)
            · refine ab_bipush (pc := 64) (v := -3) dX11_opens_64 (by decide) ?_
              refine mo_ir (pc := 66) dX11_opens_66 rfl rfl ?_
              first | (rw [Fopens_14]; (try dsimp only); rw [if_neg c_16, if_pos c_29, if_neg c_40, if_pos c_52, if_pos c_61]; done) | (rw [Fopens_14]; (try dsimp only); rw [if_neg c_16, if_pos c_29, if_neg c_40, if_pos c_52, if_pos c_61]; rfl)
        · refine ab_bipush (pc := 43) (v := -2) dX11_opens_43 (by decide) ?_
          refine mo_ir (pc := 45) dX11_opens_45 rfl rfl ?_
          first | (rw [Fopens_14]; (try dsimp only); rw [if_neg c_16, if_pos c_29, if_pos c_40]; done) | (rw [Fopens_14]; (try dsimp only); rw [if_neg c_16, if_pos c_29, if_pos c_40]; rfl)
      · replace hD := hD.2 c_29
        refine ab_iinc (pc := 32) dX11_opens_32 rfl (ab_inc _) (Nat.le_of_ble_eq_true rfl) rfl ?_
        refine ab_goto (pc := 35) (tgt := 14) dX11_opens_35 (by decide) ?_
        refine mo_eqi ?_ (ih _ _ _ _ hD)
        first | (rw [Fopens_14]; (try dsimp only); rw [if_neg c_16, if_neg c_29]; done) | (rw [Fopens_14]; (try dsimp only); rw [if_neg c_16, if_neg c_29]; rfl)
def Fopens (u : Nat) (a : Int32) (m : mD) : Int32 × mD :=
  if (a) < 0 then
    ((-1), m)
  else
    if (a) ≤ (nI (15)) then
      Fopens_14 5 u a 0 m
    else
      ((-1), m)
def Dopens (u : Nat) (a : Int32) (m : mD) : Prop :=
  (((a) < 0) →
    True) ∧
  (¬ ((a) < 0) →
    (((a) ≤ (nI (15))) →
      Dopens_14 5 u a 0 m) ∧
    (¬ ((a) ≤ (nI (15))) →
      True))
set_option maxRecDepth 100000 in
set_option maxHeartbeats 4000000 in
theorem c_opens {tt : Prop} (u : Nat) (a : Int32) (m : mD) (hD : Dopens u a m) : ab_Met mX11_opens 1 0 0 tt [.ref (0), .int (nI (u)), .int (a)] (sM m) (mQi (Fopens u a m)) := by
  refine ab_Met.of rfl (Nat.le_of_ble_eq_true rfl) ?_
  show mV mX11_opens 1 tt (mQi (Fopens u a m)) 0 [some (.ref (0)), some (.int (nI (u))), some (.int (a)), none] [] m
  refine ab_iload_n (pc := 0) dX11_opens_0 rfl rfl ?_
  refine ab_if_lt (pc := 1) (tgt := 10) dX11_opens_1 (by decide) (fun c_1 => ?_) (fun c_1 => ?_)
  · refine ab_iconst (pc := 10) (v := -1) dX11_opens_10 (by decide) ?_
    refine mo_ir (pc := 11) dX11_opens_11 rfl rfl ?_
    first | (rw [Fopens]; (try dsimp only); rw [if_pos c_1]; done) | (rw [Fopens]; (try dsimp only); rw [if_pos c_1]; rfl)
  · replace hD := hD.2 c_1
    refine ab_iload_n (pc := 4) dX11_opens_4 rfl rfl ?_
    refine ab_bipush (pc := 5) (v := nI 15) dX11_opens_5 (by decide) ?_
    refine ab_icmp_le (pc := 7) (tgt := 12) dX11_opens_7 (by decide) (fun c_7 => ?_) (fun c_7 => ?_)
    · replace hD := hD.1 c_7
      refine ab_iconst (pc := 12) (v := nI 0) dX11_opens_12 (by decide) ?_
      refine ab_istore_n (pc := 13) dX11_opens_13 rfl (Nat.le_of_ble_eq_true rfl) rfl ?_
      refine mo_eqi ?_ (w_opens_14 5 _ _ _ _ hD)
      first | (rw [Fopens]; (try dsimp only); rw [if_neg c_1, if_pos c_7]; done) | (rw [Fopens]; (try dsimp only); rw [if_neg c_1, if_pos c_7]; rfl)
    · refine ab_iconst (pc := 10) (v := -1) dX11_opens_10 (by decide) ?_
      refine mo_ir (pc := 11) dX11_opens_11 rfl rfl ?_
      first | (rw [Fopens]; (try dsimp only); rw [if_neg c_1, if_neg c_7]; done) | (rw [Fopens]; (try dsimp only); rw [if_neg c_1, if_neg c_7]; rfl)
def Fremoves_59 : Nat → Int32 → Int32 → mD → Int32 × mD
  | 0, _, _, m => (0, m)
  | n + 1, a, a2, m =>
    if (((nI (4)) * (a)) + (nI (4))) ≤ (a2) then
      ((nI (0)), m)
    else
      if (m 18 ((a2).toNatClampNeg)) < 0 then
        Fremoves_59 n a ((a2) + (1)) m
      else
        let m14 := ab_up m 19 ((m 18 ((a2).toNatClampNeg)).toNatClampNeg) (nI (0))
        let m17 := ab_up m14 18 ((a2).toNatClampNeg) (-1)
        Fremoves_59 n a ((a2) + (1)) m17
def Dremoves_59 : Nat → Int32 → Int32 → mD → Prop
  | 0, _, _, _ => False
  | n + 1, a, a2, m =>
    (((((nI (4)) * (a)) + (nI (4))) ≤ (a2)) →
      True) ∧
    (¬ ((((nI (4)) * (a)) + (nI (4))) ≤ (a2)) →
      (¬ (a2) < 0) ∧
      (((a2).toNatClampNeg) < 64) ∧
      (((m 18 ((a2).toNatClampNeg)) < 0) →
        Dremoves_59 n a ((a2) + (1)) m) ∧
      (¬ ((m 18 ((a2).toNatClampNeg)) < 0) →
        (¬ (a2) < 0) ∧
        (((a2).toNatClampNeg) < 64) ∧
        (¬ (m 18 ((a2).toNatClampNeg)) < 0) ∧
        (((m 18 ((a2).toNatClampNeg)).toNatClampNeg) < 24) ∧
        let m14 := ab_up m 19 ((m 18 ((a2).toNatClampNeg)).toNatClampNeg) (nI (0))
        (¬ (a2) < 0) ∧
        (((a2).toNatClampNeg) < 64) ∧
        let m17 := ab_up m14 18 ((a2).toNatClampNeg) (-1)
        Dremoves_59 n a ((a2) + (1)) m17))
set_option maxRecDepth 100000 in
set_option maxHeartbeats 4000000 in
theorem w_removes_59 {tt : Prop} : ∀ (n : Nat) (a : Int32) (a2 : Int32) (m : mD) (hD : Dremoves_59 n a a2 m), mV mX11_removes 0 tt (mQi (Fremoves_59 n a a2 m)) 59 [some (.ref (0)), some (.int (a)), some (.int (a2))] [] m := by
  intro n
  induction n with
  | zero => intros; rename_i hD; exact hD.elim
  | succ n ih =>
    intro a a2 m hD
    refine ab_iload_n (pc := 59) dX11_removes_59 rfl rfl ?_
    refine ab_iconst (pc := 60) (v := nI 4) dX11_removes_60 (by decide) ?_
    refine ab_iload_n (pc := 61) dX11_removes_61 rfl rfl ?_
    refine ab_imul (pc := 62) dX11_removes_62 ?_
    refine ab_iconst (pc := 63) (v := nI 4) dX11_removes_63 (by decide) ?_
    refine ab_iadd (pc := 64) dX11_removes_64 ?_
    refine ab_icmp_ge (pc := 65) (tgt := 102) dX11_removes_65 (by decide) (fun c_65 => ?_) (fun c_65 => ?_)
    · refine ab_iconst (pc := 102) (v := nI 0) dX11_removes_102 (by decide) ?_
      refine mo_ir (pc := 103) dX11_removes_103 rfl rfl ?_
      first | (rw [Fremoves_59]; (try dsimp only); rw [if_pos c_65]; done) | (rw [Fremoves_59]; (try dsimp only); rw [if_pos c_65]; rfl)
    · replace hD := hD.2 c_65
      refine ab_aload_n (pc := 68) dX11_removes_68 rfl rfl ?_
      refine mo_gr (pc := 69) dX11_removes_69 fl_X11_104 rfl rfl ?_
      refine ab_iload_n (pc := 72) dX11_removes_72 rfl rfl ?_
      obtain ⟨o8, hD⟩ := hD
      refine ab_nat1 (ab_nat o8) ?_
      obtain ⟨o9, hD⟩ := hD
      refine mo_ild (pc := 73) dX11_removes_73 (by decide) rfl o9 (by decide) ?_
      refine ab_if_lt (pc := 74) (tgt := 96) dX11_removes_74 (by decide) (fun c_74 => ?_) (fun c_74 => ?_)
      · replace hD := hD.1 c_74
        refine ab_iinc (pc := 96) (v := _ + (1)) dX11_removes_96 rfl rfl (Nat.le_of_ble_eq_true rfl) rfl ?_
        refine ab_goto (pc := 99) (tgt := 59) dX11_removes_99 (by decide) ?_
        refine mo_eqi ?_ (ih _ _ _ hD)
        first | (rw [Fremoves_59]; (try dsimp only); rw [if_neg c_65, if_pos c_74]; done) | (rw [Fremoves_59]; (try dsimp only); rw [if_neg c_65, if_pos c_74]; rfl)
      · replace hD := hD.2 c_74
        refine ab_aload_n (pc := 77) dX11_removes_77 rfl rfl ?_
        refine mo_gr (pc := 78) dX11_removes_78 fl_X11_107 rfl rfl ?_
        refine ab_aload_n (pc := 81) dX11_removes_81 rfl rfl ?_
        refine mo_gr (pc := 82) dX11_removes_82 fl_X11_104 rfl rfl ?_
        refine ab_iload_n (pc := 85) dX11_removes_85 rfl rfl ?_
        obtain ⟨o10, hD⟩ := hD
        refine ab_nat1 (ab_nat o10) ?_
        obtain ⟨o11, hD⟩ := hD
        refine mo_ild (pc := 86) dX11_removes_86 (by decide) rfl o11 (by decide) ?_
        refine ab_iconst (pc := 87) (v := nI 0) dX11_removes_87 (by decide) ?_
        obtain ⟨o12, hD⟩ := hD
        refine ab_nat3 (ab_nat o12) ?_
        obtain ⟨o13, hD⟩ := hD
        refine mo_zst (pc := 88) dX11_removes_88 (by decide) rfl o13 (by decide) (Or.inl rfl) ?_
        refine ab_aload_n (pc := 89) dX11_removes_89 rfl rfl ?_
        refine mo_gr (pc := 90) dX11_removes_90 fl_X11_104 rfl rfl ?_
        refine ab_iload_n (pc := 93) dX11_removes_93 rfl rfl ?_
        refine ab_iconst (pc := 94) (v := -1) dX11_removes_94 (by decide) ?_
        obtain ⟨o15, hD⟩ := hD
        refine ab_nat3 (ab_nat o15) ?_
        obtain ⟨o16, hD⟩ := hD
        refine mo_ist (pc := 95) dX11_removes_95 (by decide) rfl o16 (by decide) ?_
        refine ab_iinc (pc := 96) (v := _ + (1)) dX11_removes_96 rfl rfl (Nat.le_of_ble_eq_true rfl) rfl ?_
        refine ab_goto (pc := 99) (tgt := 59) dX11_removes_99 (by decide) ?_
        refine mo_eqi ?_ (ih _ _ _ hD)
        first | (rw [Fremoves_59]; (try dsimp only); rw [if_neg c_65, if_neg c_74]; done) | (rw [Fremoves_59]; (try dsimp only); rw [if_neg c_65, if_neg c_74]; rfl)
def Fremoves_23 : Nat → Int32 → Nat → mD → Int32 × mD
  | 0, _, _, m => (0, m)
  | n + 1, a, a2, m =>
    if 48 ≤ a2 then
      let m6 := ab_up m 16 ((a).toNatClampNeg) (nI (0))
      Fremoves_59 49 a ((nI (4)) * (a)) m6
    else
      if (m 14 a2) = (a) then
        ((-7), m)
      else
        Fremoves_23 n a (a2 + 1) m
def Dremoves_23 : Nat → Int32 → Nat → mD → Prop
  | 0, _, _, _ => False
  | n + 1, a, a2, m =>
    (a2 < 2147483648) ∧
    ((48 ≤ a2) →
      (¬ (a) < 0) ∧
      (((a).toNatClampNeg) < 16) ∧
      let m6 := ab_up m 16 ((a).toNatClampNeg) (nI (0))
      Dremoves_59 49 a ((nI (4)) * (a)) m6) ∧
    (¬ (48 ≤ a2) →
      (a2 < 48) ∧
      (((m 14 a2) = (a)) →
        True) ∧
      (¬ ((m 14 a2) = (a)) →
        Dremoves_23 n a (a2 + 1) m))
set_option maxRecDepth 100000 in
set_option maxHeartbeats 4000000 in
theorem w_removes_23 {tt : Prop} : ∀ (n : Nat) (a : Int32) (a2 : Nat) (m : mD) (hD : Dremoves_23 n a a2 m), mV mX11_removes 0 tt (mQi (Fremoves_23 n a a2 m)) 23 [some (.ref (0)), some (.int (a)), some (.int (nI (a2)))] [] m := by
  intro n
  induction n with
  | zero => intros; rename_i hD; exact hD.elim
  | succ n ih =>
    intro a a2 m hD
    refine ab_iload_n (pc := 23) dX11_removes_23 rfl rfl ?_
    refine ab_bipush (pc := 24) (v := nI 48) dX11_removes_24 (by decide) ?_
    obtain ⟨o3, hD⟩ := hD
    refine ab_icmp_geN (pc := 26) (tgt := 48) dX11_removes_26 (by decide) o3 (by decide) (fun c_26 => ?_) (fun c_26 => ?_)
    · replace hD := hD.1 c_26
      refine ab_aload_n (pc := 48) dX11_removes_48 rfl rfl ?_
      refine mo_gr (pc := 49) dX11_removes_49 fl_X11_98 rfl rfl ?_
      refine ab_iload_n (pc := 52) dX11_removes_52 rfl rfl ?_
      refine ab_iconst (pc := 53) (v := nI 0) dX11_removes_53 (by decide) ?_
      obtain ⟨o4, hD⟩ := hD
      refine ab_nat3 (ab_nat o4) ?_
      obtain ⟨o5, hD⟩ := hD
      refine mo_zst (pc := 54) dX11_removes_54 (by decide) rfl o5 (by decide) (Or.inl rfl) ?_
      refine ab_iconst (pc := 55) (v := nI 4) dX11_removes_55 (by decide) ?_
      refine ab_iload_n (pc := 56) dX11_removes_56 rfl rfl ?_
      refine ab_imul (pc := 57) dX11_removes_57 ?_
      refine ab_istore_n (pc := 58) dX11_removes_58 rfl (Nat.le_of_ble_eq_true rfl) rfl ?_
      refine mo_eqi ?_ (w_removes_59 49 _ _ _ hD)
      first | (rw [Fremoves_23]; (try dsimp only); rw [if_pos c_26]; done) | (rw [Fremoves_23]; (try dsimp only); rw [if_pos c_26]; rfl)
    · replace hD := hD.2 c_26
      refine ab_aload_n (pc := 29) dX11_removes_29 rfl rfl ?_
      refine mo_gr (pc := 30) dX11_removes_30 fl_X11_92 rfl rfl ?_
      refine ab_iload_n (pc := 33) dX11_removes_33 rfl rfl ?_
      obtain ⟨o7, hD⟩ := hD
      refine mo_ild (pc := 34) dX11_removes_34 (by decide) rfl o7 (by decide) ?_
      refine ab_iload_n (pc := 35) dX11_removes_35 rfl rfl ?_
      refine ab_icmp_ne (pc := 36) (tgt := 42) dX11_removes_36 (by decide) (fun c_36 => ?_) (fun c_36 => ?_)
      · replace hD := hD.2 c_36
        refine ab_iinc (pc := 42) dX11_removes_42 rfl (ab_inc _) (Nat.le_of_ble_eq_true rfl) rfl ?_
        refine ab_goto (pc := 45) (tgt := 23) dX11_removes_45 (by decide) ?_
        refine mo_eqi ?_ (ih _ _ _ hD)
        first | (rw [Fremoves_23]; (try dsimp only); rw [if_neg c_26, if_neg c_36]; done) | (rw [Fremoves_23]; (try dsimp only); rw [if_neg c_26, if_neg c_36]; rfl)
      · refine ab_bipush (pc := 39) (v := -7) dX11_removes_39 (by decide) ?_
        refine mo_ir (pc := 41) dX11_removes_41 rfl rfl ?_
        first | (rw [Fremoves_23]; (try dsimp only); rw [if_neg c_26, if_pos c_36]; done) | (rw [Fremoves_23]; (try dsimp only); rw [if_neg c_26, if_pos c_36]; rfl)
def Fremoves (a : Int32) (m : mD) : Int32 × mD :=
  if (a) < 0 then
    ((-1), m)
  else
    if (nI (15)) < (a) then
      ((-1), m)
    else
      if (m 16 ((a).toNatClampNeg)) = 0 then
        ((-1), m)
      else
        Fremoves_23 49 a 0 m
def Dremoves (a : Int32) (m : mD) : Prop :=
  (((a) < 0) →
    True) ∧
  (¬ ((a) < 0) →
    (((nI (15)) < (a)) →
      True) ∧
    (¬ ((nI (15)) < (a)) →
      (¬ (a) < 0) ∧
      (((a).toNatClampNeg) < 16) ∧
      (((m 16 ((a).toNatClampNeg)) = 0) →
        True) ∧
      (¬ ((m 16 ((a).toNatClampNeg)) = 0) →
        Dremoves_23 49 a 0 m)))
set_option maxRecDepth 100000 in
set_option maxHeartbeats 4000000 in
theorem c_removes {tt : Prop} (a : Int32) (m : mD) (hD : Dremoves a m) : ab_Met mX11_removes 0 0 0 tt [.ref (0), .int (a)] (sM m) (mQi (Fremoves a m)) := by
  refine ab_Met.of rfl (Nat.le_of_ble_eq_true rfl) ?_
  show mV mX11_removes 0 tt (mQi (Fremoves a m)) 0 [some (.ref (0)), some (.int (a)), none] [] m
  refine ab_iload_n (pc := 0) dX11_removes_0 rfl rfl ?_
  refine ab_if_lt (pc := 1) (tgt := 19) dX11_removes_1 (by decide) (fun c_1 => ?_) (fun c_1 => ?_)
  · refine ab_iconst (pc := 19) (v := -1) dX11_removes_19 (by decide) ?_
    refine mo_ir (pc := 20) dX11_removes_20 rfl rfl ?_
    first | (rw [Fremoves]; (try dsimp only); rw [if_pos c_1]; done) | (rw [Fremoves]; (try dsimp only); rw [if_pos c_1]; rfl)
  · replace hD := hD.2 c_1
    refine ab_iload_n (pc := 4) dX11_removes_4 rfl rfl ?_
    refine ab_bipush (pc := 5) (v := nI 15) dX11_removes_5 (by decide) ?_
    refine ab_icmp_gt (pc := 7) (tgt := 19) dX11_removes_7 (by decide) (fun c_7 => ?_) (fun c_7 => ?_)
    · refine ab_iconst (pc := 19) (v := -1) dX11_removes_19 (by decide) ?_
      refine mo_ir (pc := 20) dX11_removes_20 rfl rfl ?_
      first | (rw [Fremoves]; (try dsimp only); rw [if_neg c_1, if_pos c_7]; done) | (rw [Fremoves]; (try dsimp only); rw [if_neg c_1, if_pos c_7]; rfl)
    · replace hD := hD.2 c_7
      refine ab_aload_n (pc := 10) dX11_removes_10 rfl rfl ?_
      refine mo_gr (pc := 11) dX11_removes_11 fl_X11_98 rfl rfl ?_
      refine ab_iload_n (pc := 14) dX11_removes_14 rfl rfl ?_
      obtain ⟨o1, hD⟩ := hD
      refine ab_nat1 (ab_nat o1) ?_
      obtain ⟨o2, hD⟩ := hD
      refine mo_zld (pc := 15) dX11_removes_15 (by decide) rfl o2 (by decide) ?_
      refine ab_if_ne (pc := 16) (tgt := 21) dX11_removes_16 (by decide) (fun c_16 => ?_) (fun c_16 => ?_)
      · replace hD := hD.2 c_16
        refine ab_iconst (pc := 21) (v := nI 0) dX11_removes_21 (by decide) ?_
        refine ab_istore_n (pc := 22) dX11_removes_22 rfl (Nat.le_of_ble_eq_true rfl) rfl ?_
        refine mo_eqi ?_ (w_removes_23 49 _ _ _ hD)
        first | (rw [Fremoves]; (try dsimp only); rw [if_neg c_1, if_neg c_7, if_neg c_16]; done) | (rw [Fremoves]; (try dsimp only); rw [if_neg c_1, if_neg c_7, if_neg c_16]; rfl)
      · refine ab_iconst (pc := 19) (v := -1) dX11_removes_19 (by decide) ?_
        refine mo_ir (pc := 20) dX11_removes_20 rfl rfl ?_
        first | (rw [Fremoves]; (try dsimp only); rw [if_neg c_1, if_neg c_7, if_pos c_16]; done) | (rw [Fremoves]; (try dsimp only); rw [if_neg c_1, if_neg c_7, if_pos c_16]; rfl)
def Freads (u : Nat) (s : Nat) (f : Nat) (m : mD) : mD :=
  if (m 15 s) = (m 17 f) then
    let z13 := Ftells 2 u (-5) m
    z13
  else
    let m3 := ab_up m 0 37 (nI (u))
    let m4 := ab_up m3 0 38 (nI (s))
    let m5 := ab_up m4 0 36 (nI (1))
    let m6 := ab_up m5 0 40 (nI (20))
    let m9 := ab_up m6 0 41 (m6 18 (((nI (4 * f)) + ((m 15 s) / (nI (8)))).toNatClampNeg))
    let z11 := FasksDriver  m9
    z11
def Dreads (u : Nat) (s : Nat) (f : Nat) (m : mD) : Prop :=
  (s < 48) ∧
  (f < 16) ∧
  (((m 15 s) = (m 17 f)) →
    (Dtells 2 u (-5) m) ∧
    let z13 := Ftells 2 u (-5) m
    True) ∧
  (¬ ((m 15 s) = (m 17 f)) →
    let m3 := ab_up m 0 37 (nI (u))
    let m4 := ab_up m3 0 38 (nI (s))
    let m5 := ab_up m4 0 36 (nI (1))
    let m6 := ab_up m5 0 40 (nI (20))
    (¬ ((nI (4 * f)) + ((m 15 s) / (nI (8)))) < 0) ∧
    ((((nI (4 * f)) + ((m 15 s) / (nI (8)))).toNatClampNeg) < 64) ∧
    let m9 := ab_up m6 0 41 (m6 18 (((nI (4 * f)) + ((m 15 s) / (nI (8)))).toNatClampNeg))
    (DasksDriver  m9) ∧
    let z11 := FasksDriver  m9
    True)
set_option maxRecDepth 100000 in
set_option maxHeartbeats 4000000 in
theorem c_reads {tt : Prop} (u : Nat) (s : Nat) (f : Nat) (m : mD) (hD : Dreads u s f m) : ab_Met mX11_reads 5 0 0 tt [.ref (0), .int (nI (u)), .int (nI (s)), .int (nI (f))] (sM m) (mQv (Freads u s f m)) := by
  refine ab_Met.of rfl (Nat.le_of_ble_eq_true rfl) ?_
  show mV mX11_reads 5 tt (mQv (Freads u s f m)) 0 [some (.ref (0)), some (.int (nI (u))), some (.int (nI (s))), some (.int (nI (f))), none] [] m
  refine ab_aload_n (pc := 0) dX11_reads_0 rfl rfl ?_
  refine mo_gr (pc := 1) dX11_reads_1 fl_X11_95 rfl rfl ?_
  refine ab_iload_n (pc := 4) dX11_reads_4 rfl rfl ?_
  obtain ⟨o1, hD⟩ := hD
  refine mo_ild (pc := 5) dX11_reads_5 (by decide) rfl o1 (by decide) ?_
  refine ab_istore (pc := 6) dX11_reads_6 (Nat.le_of_ble_eq_true rfl) rfl ?_
  refine ab_iload (pc := 8) dX11_reads_8 rfl ?_
  refine ab_aload_n (pc := 10) dX11_reads_10 rfl rfl ?_
  refine mo_gr (pc := 11) dX11_reads_11 fl_X11_101 rfl rfl ?_
  refine ab_iload_n (pc := 14) dX11_reads_14 rfl rfl ?_
  obtain ⟨o2, hD⟩ := hD
  refine mo_ild (pc := 15) dX11_reads_15 (by decide) rfl o2 (by decide) ?_
  refine ab_icmp_ne (pc := 16) (tgt := 28) dX11_reads_16 (by decide) (fun c_16 => ?_) (fun c_16 => ?_)
  · replace hD := hD.2 c_16
    refine ab_aload_n (pc := 28) dX11_reads_28 rfl rfl ?_
    refine ab_iload_n (pc := 29) dX11_reads_29 rfl rfl ?_
    refine mo_pi (pc := 30) dX11_reads_30 fl_X11_213 rfl rfl (ab_ok_i _) ?_
    refine ab_aload_n (pc := 33) dX11_reads_33 rfl rfl ?_
    refine ab_iload_n (pc := 34) dX11_reads_34 rfl rfl ?_
    refine mo_pi (pc := 35) dX11_reads_35 fl_X11_216 rfl rfl (ab_ok_i _) ?_
    refine ab_aload_n (pc := 38) dX11_reads_38 rfl rfl ?_
    refine ab_iconst (pc := 39) (v := nI 1) dX11_reads_39 (by decide) ?_
    refine mo_pi (pc := 40) dX11_reads_40 fl_X11_219 rfl rfl (ab_ok_i _) ?_
    refine ab_aload_n (pc := 43) dX11_reads_43 rfl rfl ?_
    refine ab_bipush (pc := 44) (v := nI 20) dX11_reads_44 (by decide) ?_
    refine mo_pi (pc := 46) dX11_reads_46 fl_X11_186 rfl rfl (ab_ok_i _) ?_
    refine ab_aload_n (pc := 49) dX11_reads_49 rfl rfl ?_
    refine ab_aload_n (pc := 50) dX11_reads_50 rfl rfl ?_
    refine mo_gr (pc := 51) dX11_reads_51 fl_X11_104 rfl rfl ?_
    refine ab_iconst (pc := 54) (v := nI 4) dX11_reads_54 (by decide) ?_
    refine ab_iload_n (pc := 55) dX11_reads_55 rfl rfl ?_
    refine ab_imulN (pc := 56) dX11_reads_56 ?_
    refine ab_iload (pc := 57) dX11_reads_57 rfl ?_
    refine ab_bipush (pc := 59) (v := nI 8) dX11_reads_59 (by decide) ?_
    refine ab_idiv (pc := 61) dX11_reads_61 (by decide) ?_
    refine ab_iadd (pc := 62) dX11_reads_62 ?_
    obtain ⟨o7, hD⟩ := hD
    refine ab_nat1 (ab_nat o7) ?_
    obtain ⟨o8, hD⟩ := hD
    refine mo_ild (pc := 63) dX11_reads_63 (by decide) rfl o8 (by decide) ?_
    refine mo_pi (pc := 64) dX11_reads_64 fl_X11_189 rfl rfl (ab_ok_i _) ?_
    refine ab_aload_n (pc := 67) dX11_reads_67 rfl rfl ?_
    obtain ⟨o10, hD⟩ := hD
    refine mo_invv (N := mX11_asksDriver) (pc := 68) (d' := 4) (av := []) dX11_reads_68 ml_X11_172 fv_X11_asksDriver (Nat.le_of_ble_eq_true rfl) (by decide) (c_asksDriver  _ o10) ?_
    refine mo_vr (pc := 71) dX11_reads_71 rfl ?_
    first | (rw [Freads]; (try dsimp only); rw [if_neg c_16]; done) | (rw [Freads]; (try dsimp only); rw [if_neg c_16]; rfl)
  · replace hD := hD.1 c_16
    refine ab_aload_n (pc := 19) dX11_reads_19 rfl rfl ?_
    refine ab_iconst (pc := 20) (v := nI 2) dX11_reads_20 (by decide) ?_
    refine ab_iload_n (pc := 21) dX11_reads_21 rfl rfl ?_
    refine ab_bipush (pc := 22) (v := -5) dX11_reads_22 (by decide) ?_
    obtain ⟨o12, hD⟩ := hD
    refine mo_invv (N := mX11_tells) (pc := 24) (d' := 4) (av := [_, _, _]) dX11_reads_24 ml_X11_196 fv_X11_tells (Nat.le_of_ble_eq_true rfl) (by decide) (c_tells _ _ _ _ o12) ?_
    refine mo_vr (pc := 27) dX11_reads_27 rfl ?_
    first | (rw [Freads]; (try dsimp only); rw [if_pos c_16]; done) | (rw [Freads]; (try dsimp only); rw [if_pos c_16]; rfl)
def Fwrites_128 : Nat → Nat → Nat → Nat → Int32 → Int32 → Nat → mD → mD
  | 0, _, _, _, _, _, _, m => m
  | n + 1, u, s, f, v, a5, a7, m =>
    if 8 ≤ a7 then
      let m41 := ab_up m 0 36 (nI (3))
      let m42 := ab_up m41 0 40 (nI (21))
      let m45 := ab_up m42 0 41 (m42 18 (((nI (4 * f)) + ((a5) / (nI (8)))).toNatClampNeg))
      let z47 := FasksDriver  m45
      z47
    else
      if a7 = 0 then
        let m52 := ab_up m 22 a7 (v)
        Fwrites_128 n u s f v (a5) (a7 + 1) m52
      else
        let m50 := ab_up m 22 a7 (nI (0))
        Fwrites_128 n u s f v (a5) (a7 + 1) m50
def Dwrites_128 : Nat → Nat → Nat → Nat → Int32 → Int32 → Nat → mD → Prop
  | 0, _, _, _, _, _, _, _ => False
  | n + 1, u, s, f, v, a5, a7, m =>
    (a7 < 2147483648) ∧
    ((8 ≤ a7) →
      let m41 := ab_up m 0 36 (nI (3))
      let m42 := ab_up m41 0 40 (nI (21))
      (¬ ((nI (4 * f)) + ((a5) / (nI (8)))) < 0) ∧
      ((((nI (4 * f)) + ((a5) / (nI (8)))).toNatClampNeg) < 64) ∧
      let m45 := ab_up m42 0 41 (m42 18 (((nI (4 * f)) + ((a5) / (nI (8)))).toNatClampNeg))
      (DasksDriver  m45) ∧
      let z47 := FasksDriver  m45
      True) ∧
    (¬ (8 ≤ a7) →
      (a7 < 2147483648) ∧
      ((a7 = 0) →
        (a7 < 8) ∧
        let m52 := ab_up m 22 a7 (v)
        Dwrites_128 n u s f v (a5) (a7 + 1) m52) ∧
      (¬ (a7 = 0) →
        (a7 < 8) ∧
        let m50 := ab_up m 22 a7 (nI (0))
        Dwrites_128 n u s f v (a5) (a7 + 1) m50))
set_option maxRecDepth 100000 in
set_option maxHeartbeats 4000000 in
theorem w_writes_128 {tt : Prop} : ∀ (n : Nat) (u : Nat) (s : Nat) (f : Nat) (v : Int32) (a5 : Int32) (a7 : Nat) (m : mD) (hD : Dwrites_128 n u s f v a5 a7 m), mV mX11_writes 5 tt (mQv (Fwrites_128 n u s f v a5 a7 m)) 128 [some (.ref (0)), none, none, some (.int (nI (f))), some (.int (v)), some (.int (a5)), none, some (.int (nI (a7)))] [] m := by
  intro n
  induction n with
  | zero => intros; rename_i hD; exact hD.elim
  | succ n ih =>
    intro u s f v a5 a7 m hD
    refine ab_iload (pc := 128) dX11_writes_128 rfl ?_
    refine ab_bipush (pc := 130) (v := nI 8) dX11_writes_130 (by decide) ?_
    obtain ⟨o40, hD⟩ := hD
    refine ab_icmp_geN (pc := 132) (tgt := 159) dX11_writes_132 (by decide) o40 (by decide) (fun c_132 => ?_) (fun c_132 => ?_)
    · replace hD := hD.1 c_132
      refine ab_aload_n (pc := 159) dX11_writes_159 rfl rfl ?_
      refine ab_iconst (pc := 160) (v := nI 3) dX11_writes_160 (by decide) ?_
      refine mo_pi (pc := 161) dX11_writes_161 fl_X11_219 rfl rfl (ab_ok_i _) ?_
      refine ab_aload_n (pc := 164) dX11_writes_164 rfl rfl ?_
      refine ab_bipush (pc := 165) (v := nI 21) dX11_writes_165 (by decide) ?_
      refine mo_pi (pc := 167) dX11_writes_167 fl_X11_186 rfl rfl (ab_ok_i _) ?_
      refine ab_goto (pc := 170) (tgt := 184) dX11_writes_170 (by decide) ?_
      refine ab_aload_n (pc := 184) dX11_writes_184 rfl rfl ?_
      refine ab_aload_n (pc := 185) dX11_writes_185 rfl rfl ?_
      refine mo_gr (pc := 186) dX11_writes_186 fl_X11_104 rfl rfl ?_
      refine ab_iconst (pc := 189) (v := nI 4) dX11_writes_189 (by decide) ?_
      refine ab_iload_n (pc := 190) dX11_writes_190 rfl rfl ?_
      refine ab_imulN (pc := 191) dX11_writes_191 ?_
      refine ab_iload (pc := 192) dX11_writes_192 rfl ?_
      refine ab_bipush (pc := 194) (v := nI 8) dX11_writes_194 (by decide) ?_
      refine ab_idiv (pc := 196) dX11_writes_196 (by decide) ?_
      refine ab_iadd (pc := 197) dX11_writes_197 ?_
      obtain ⟨o43, hD⟩ := hD
      refine ab_nat1 (ab_nat o43) ?_
      obtain ⟨o44, hD⟩ := hD
      refine mo_ild (pc := 198) dX11_writes_198 (by decide) rfl o44 (by decide) ?_
      refine mo_pi (pc := 199) dX11_writes_199 fl_X11_189 rfl rfl (ab_ok_i _) ?_
      refine ab_aload_n (pc := 202) dX11_writes_202 rfl rfl ?_
      obtain ⟨o46, hD⟩ := hD
      refine mo_invv (N := mX11_asksDriver) (pc := 203) (d' := 4) (av := []) dX11_writes_203 ml_X11_172 fv_X11_asksDriver (Nat.le_of_ble_eq_true rfl) (by decide) (c_asksDriver  _ o46) ?_
      refine mo_vr (pc := 206) dX11_writes_206 rfl ?_
      first | (rw [Fwrites_128]; (try dsimp only); rw [if_pos c_132]; done) | (rw [Fwrites_128]; (try dsimp only); rw [if_pos c_132]; rfl)
    · replace hD := hD.2 c_132
      refine ab_aload_n (pc := 135) dX11_writes_135 rfl rfl ?_
      refine mo_gr (pc := 136) dX11_writes_136 fl_X11_116 rfl rfl ?_
      refine ab_iload (pc := 139) dX11_writes_139 rfl ?_
      refine ab_iload (pc := 141) dX11_writes_141 rfl ?_
      obtain ⟨o48, hD⟩ := hD
      refine ab_if_neN (pc := 143) (tgt := 151) dX11_writes_143 (by decide) o48 (fun c_143 => ?_) (fun c_143 => ?_)
      · replace hD := hD.2 c_143
        refine ab_iconst (pc := 151) (v := nI 0) dX11_writes_151 (by decide) ?_
        obtain ⟨o49, hD⟩ := hD
        refine mo_ist (pc := 152) dX11_writes_152 (by decide) rfl o49 (by decide) ?_
        refine ab_iinc (pc := 153) dX11_writes_153 rfl (ab_inc _) (Nat.le_of_ble_eq_true rfl) rfl ?_
        refine ab_goto (pc := 156) (tgt := 128) dX11_writes_156 (by decide) ?_
        refine ab_wk (ls2 := [some _, none, none, some _, some _, some _, none, some _]) (And.intro rfl (And.intro rfl (And.intro rfl (And.intro rfl (And.intro rfl trivial))))) ?_
        refine mo_eqv ?_ (ih _ _ _ _ _ _ _ hD)
        first | (rw [Fwrites_128]; (try dsimp only); rw [if_neg c_132, if_neg c_143]; done) | (rw [Fwrites_128]; (try dsimp only); rw [if_neg c_132, if_neg c_143]; rfl)
      · replace hD := hD.1 c_143
        refine ab_iload (pc := 146) dX11_writes_146 rfl ?_
        refine ab_goto (pc := 148) (tgt := 152) dX11_writes_148 (by decide) ?_
        obtain ⟨o51, hD⟩ := hD
        refine mo_ist (pc := 152) dX11_writes_152 (by decide) rfl o51 (by decide) ?_
        refine ab_iinc (pc := 153) dX11_writes_153 rfl (ab_inc _) (Nat.le_of_ble_eq_true rfl) rfl ?_
        refine ab_goto (pc := 156) (tgt := 128) dX11_writes_156 (by decide) ?_
        refine ab_wk (ls2 := [some _, none, none, some _, some _, some _, none, some _]) (And.intro rfl (And.intro rfl (And.intro rfl (And.intro rfl (And.intro rfl trivial))))) ?_
        refine mo_eqv ?_ (ih _ _ _ _ _ _ _ hD)
        first | (rw [Fwrites_128]; (try dsimp only); rw [if_neg c_132, if_pos c_143]; done) | (rw [Fwrites_128]; (try dsimp only); rw [if_neg c_132, if_pos c_143]; rfl)
def Fwrites_62 : Nat → Nat → Nat → Nat → Int32 → Int32 → Nat → mD → mD
  | 0, _, _, _, _, _, _, m => m
  | n + 1, u, s, f, v, a5, a6, m =>
    if 24 ≤ a6 then
      if a6 = 24 then
        let z30 := Ftells 2 u (-6) m
        z30
      else
        let m25 := ab_up m 19 a6 (nI (1))
        let m28 := ab_up m25 18 (((nI (4 * f)) + ((a5) / (nI (8)))).toNatClampNeg) (nI (a6))
        Fwrites_128 25 u s f v (a5) 0 m28
    else
      if (m 19 a6) = 0 then
        if a6 = 24 then
          let z39 := Ftells 2 u (-6) m
          z39
        else
          let m34 := ab_up m 19 a6 (nI (1))
          let m37 := ab_up m34 18 (((nI (4 * f)) + ((a5) / (nI (8)))).toNatClampNeg) (nI (a6))
          Fwrites_128 25 u s f v (a5) 0 m37
      else
        Fwrites_62 n u s f v (a5) (a6 + 1) m
def Dwrites_62 : Nat → Nat → Nat → Nat → Int32 → Int32 → Nat → mD → Prop
  | 0, _, _, _, _, _, _, _ => False
  | n + 1, u, s, f, v, a5, a6, m =>
    (a6 < 2147483648) ∧
    ((24 ≤ a6) →
      (a6 < 2147483648) ∧
      ((a6 = 24) →
        (Dtells 2 u (-6) m) ∧
        let z30 := Ftells 2 u (-6) m
        True) ∧
      (¬ (a6 = 24) →
        (a6 < 24) ∧
        let m25 := ab_up m 19 a6 (nI (1))
        (¬ ((nI (4 * f)) + ((a5) / (nI (8)))) < 0) ∧
        ((((nI (4 * f)) + ((a5) / (nI (8)))).toNatClampNeg) < 64) ∧
        let m28 := ab_up m25 18 (((nI (4 * f)) + ((a5) / (nI (8)))).toNatClampNeg) (nI (a6))
        Dwrites_128 25 u s f v (a5) 0 m28)) ∧
    (¬ (24 ≤ a6) →
      (a6 < 24) ∧
      (((m 19 a6) = 0) →
        (a6 < 2147483648) ∧
        ((a6 = 24) →
          (Dtells 2 u (-6) m) ∧
          let z39 := Ftells 2 u (-6) m
          True) ∧
        (¬ (a6 = 24) →
          (a6 < 24) ∧
          let m34 := ab_up m 19 a6 (nI (1))
          (¬ ((nI (4 * f)) + ((a5) / (nI (8)))) < 0) ∧
          ((((nI (4 * f)) + ((a5) / (nI (8)))).toNatClampNeg) < 64) ∧
          let m37 := ab_up m34 18 (((nI (4 * f)) + ((a5) / (nI (8)))).toNatClampNeg) (nI (a6))
          Dwrites_128 25 u s f v (a5) 0 m37)) ∧
      (¬ ((m 19 a6) = 0) →
        Dwrites_62 n u s f v (a5) (a6 + 1) m))
set_option maxRecDepth 100000 in
set_option maxHeartbeats 4000000 in
theorem w_writes_62 {tt : Prop} : ∀ (n : Nat) (u : Nat) (s : Nat) (f : Nat) (v : Int32) (a5 : Int32) (a6 : Nat) (m : mD) (hD : Dwrites_62 n u s f v a5 a6 m), mV mX11_writes 5 tt (mQv (Fwrites_62 n u s f v a5 a6 m)) 62 [some (.ref (0)), some (.int (nI (u))), none, some (.int (nI (f))), some (.int (v)), some (.int (a5)), some (.int (nI (a6))), none] [] m := by
  intro n
  induction n with
  | zero => intros; rename_i hD; exact hD.elim
  | succ n ih =>
    intro u s f v a5 a6 m hD
    refine ab_iload (pc := 62) dX11_writes_62 rfl ?_
    refine ab_bipush (pc := 64) (v := nI 24) dX11_writes_64 (by decide) ?_
    obtain ⟨o22, hD⟩ := hD
    refine ab_icmp_geN (pc := 66) (tgt := 85) dX11_writes_66 (by decide) o22 (by decide) (fun c_66 => ?_) (fun c_66 => ?_)
    · replace hD := hD.1 c_66
      refine ab_iload (pc := 85) dX11_writes_85 rfl ?_
      refine ab_bipush (pc := 87) (v := nI 24) dX11_writes_87 (by decide) ?_
      obtain ⟨o23, hD⟩ := hD
      refine ab_icmp_neN (pc := 89) (tgt := 101) dX11_writes_89 (by decide) o23 (by decide) (fun c_89 => ?_) (fun c_89 => ?_)
      · replace hD := hD.2 c_89
        refine ab_aload_n (pc := 101) dX11_writes_101 rfl rfl ?_
        refine mo_gr (pc := 102) dX11_writes_102 fl_X11_107 rfl rfl ?_
        refine ab_iload (pc := 105) dX11_writes_105 rfl ?_
        refine ab_iconst (pc := 107) (v := nI 1) dX11_writes_107 (by decide) ?_
        obtain ⟨o24, hD⟩ := hD
        refine mo_zst (pc := 108) dX11_writes_108 (by decide) rfl o24 (by decide) (Or.inr rfl) ?_
        refine ab_aload_n (pc := 109) dX11_writes_109 rfl rfl ?_
        refine mo_gr (pc := 110) dX11_writes_110 fl_X11_104 rfl rfl ?_
        refine ab_iconst (pc := 113) (v := nI 4) dX11_writes_113 (by decide) ?_
        refine ab_iload_n (pc := 114) dX11_writes_114 rfl rfl ?_
        refine ab_imulN (pc := 115) dX11_writes_115 ?_
        refine ab_iload (pc := 116) dX11_writes_116 rfl ?_
        refine ab_bipush (pc := 118) (v := nI 8) dX11_writes_118 (by decide) ?_
        refine ab_idiv (pc := 120) dX11_writes_120 (by decide) ?_
        refine ab_iadd (pc := 121) dX11_writes_121 ?_
        refine ab_iload (pc := 122) dX11_writes_122 rfl ?_
        obtain ⟨o26, hD⟩ := hD
        refine ab_nat3 (ab_nat o26) ?_
        obtain ⟨o27, hD⟩ := hD
        refine mo_ist (pc := 124) dX11_writes_124 (by decide) rfl o27 (by decide) ?_
        refine ab_iconst (pc := 125) (v := nI 0) dX11_writes_125 (by decide) ?_
        refine ab_istore (pc := 126) dX11_writes_126 (Nat.le_of_ble_eq_true rfl) rfl ?_
        refine ab_wk (ls2 := [some _, none, none, some _, some _, some _, none, some _]) (And.intro rfl (And.intro rfl (And.intro rfl (And.intro rfl (And.intro rfl trivial))))) ?_
        refine mo_eqv ?_ (w_writes_128 25 _ _ _ _ _ _ _ hD)
        first | (rw [Fwrites_62]; (try dsimp only); rw [if_pos c_66, if_neg c_89]; done) | (rw [Fwrites_62]; (try dsimp only); rw [if_pos c_66, if_neg c_89]; rfl)
      · replace hD := hD.1 c_89
        refine ab_aload_n (pc := 92) dX11_writes_92 rfl rfl ?_
        refine ab_iconst (pc := 93) (v := nI 2) dX11_writes_93 (by decide) ?_
        refine ab_iload_n (pc := 94) dX11_writes_94 rfl rfl ?_
        refine ab_bipush (pc := 95) (v := -6) dX11_writes_95 (by decide) ?_
        obtain ⟨o29, hD⟩ := hD
        refine mo_invv (N := mX11_tells) (pc := 97) (d' := 4) (av := [_, _, _]) dX11_writes_97 ml_X11_196 fv_X11_tells (Nat.le_of_ble_eq_true rfl) (by decide) (c_tells _ _ _ _ o29) ?_
        refine mo_vr (pc := 100) dX11_writes_100 rfl ?_
        first | (rw [Fwrites_62]; (try dsimp only); rw [if_pos c_66, if_pos c_89]; done) | (rw [Fwrites_62]; (try dsimp only); rw [if_pos c_66, if_pos c_89]; rfl)
    · replace hD := hD.2 c_66
      refine ab_aload_n (pc := 69) dX11_writes_69 rfl rfl ?_
      refine mo_gr (pc := 70) dX11_writes_70 fl_X11_107 rfl rfl ?_
      refine ab_iload (pc := 73) dX11_writes_73 rfl ?_
      obtain ⟨o31, hD⟩ := hD
      refine mo_zld (pc := 75) dX11_writes_75 (by decide) rfl o31 (by decide) ?_
      refine ab_if_eq (pc := 76) (tgt := 85) dX11_writes_76 (by decide) (fun c_76 => ?_) (fun c_76 => ?_)
      · replace hD := hD.1 c_76
        refine ab_iload (pc := 85) dX11_writes_85 rfl ?_
        refine ab_bipush (pc := 87) (v := nI 24) dX11_writes_87 (by decide) ?_
        obtain ⟨o32, hD⟩ := hD
        refine ab_icmp_neN (pc := 89) (tgt := 101) dX11_writes_89 (by decide) o32 (by decide) (fun c_89 => ?_) (fun c_89 => ?_)
        · replace hD := hD.2 c_89
          refine ab_aload_n (pc := 101) dX11_writes_101 rfl rfl ?_
          refine mo_gr (pc := 102) dX11_writes_102 fl_X11_107 rfl rfl ?_
          refine ab_iload (pc := 105) dX11_writes_105 rfl ?_
          refine ab_iconst (pc := 107) (v := nI 1) dX11_writes_107 (by decide) ?_
          obtain ⟨o33, hD⟩ := hD
          refine mo_zst (pc := 108) dX11_writes_108 (by decide) rfl o33 (by decide) (Or.inr rfl) ?_
          refine ab_aload_n (pc := 109) dX11_writes_109 rfl rfl ?_
          refine mo_gr (pc := 110) dX11_writes_110 fl_X11_104 rfl rfl ?_
          refine ab_iconst (pc := 113) (v := nI 4) dX11_writes_113 (by decide) ?_
          refine ab_iload_n (pc := 114) dX11_writes_114 rfl rfl ?_
          refine ab_imulN (pc := 115) dX11_writes_115 ?_
          refine ab_iload (pc := 116) dX11_writes_116 rfl ?_
          refine ab_bipush (pc := 118) (v := nI 8) dX11_writes_118 (by decide) ?_
          refine ab_idiv (pc := 120) dX11_writes_120 (by decide) ?_
          refine ab_iadd (pc := 121) dX11_writes_121 ?_
          refine ab_iload (pc := 122) dX11_writes_122 rfl ?_
          obtain ⟨o35, hD⟩ := hD
          refine ab_nat3 (ab_nat o35) ?_
          obtain ⟨o36, hD⟩ := hD
          refine mo_ist (pc := 124) dX11_writes_124 (by decide) rfl o36 (by decide) ?_
          refine ab_iconst (pc := 125) (v := nI 0) dX11_writes_125 (by decide) ?_
          refine ab_istore (pc := 126) dX11_writes_126 (Nat.le_of_ble_eq_true rfl) rfl ?_
          refine ab_wk (ls2 := [some _, none, none, some _, some _, some _, none, some _]) (And.intro rfl (And.intro rfl (And.intro rfl (And.intro rfl (And.intro rfl trivial))))) ?_
          refine mo_eqv ?_ (w_writes_128 25 _ _ _ _ _ _ _ hD)
          first | (rw [Fwrites_62]; (try dsimp only); rw [if_neg c_66, if_pos c_76, if_neg c_89]; done) | (rw [Fwrites_62]; (try dsimp only); rw [if_neg c_66, if_pos c_76, if_neg c_89]; rfl)
        · replace hD := hD.1 c_89
          refine ab_aload_n (pc := 92) dX11_writes_92 rfl rfl ?_
          refine ab_iconst (pc := 93) (v := nI 2) dX11_writes_93 (by decide) ?_
          refine ab_iload_n (pc := 94) dX11_writes_94 rfl rfl ?_
          refine ab_bipush (pc := 95) (v := -6) dX11_writes_95 (by decide) ?_
          obtain ⟨o38, hD⟩ := hD
          refine mo_invv (N := mX11_tells) (pc := 97) (d' := 4) (av := [_, _, _]) dX11_writes_97 ml_X11_196 fv_X11_tells (Nat.le_of_ble_eq_true rfl) (by decide) (c_tells _ _ _ _ o38) ?_
          refine mo_vr (pc := 100) dX11_writes_100 rfl ?_
          first | (rw [Fwrites_62]; (try dsimp only); rw [if_neg c_66, if_pos c_76, if_pos c_89]; done) | (rw [Fwrites_62]; (try dsimp only); rw [if_neg c_66, if_pos c_76, if_pos c_89]; rfl)
      · replace hD := hD.2 c_76
        refine ab_iinc (pc := 79) dX11_writes_79 rfl (ab_inc _) (Nat.le_of_ble_eq_true rfl) rfl ?_
        refine ab_goto (pc := 82) (tgt := 62) dX11_writes_82 (by decide) ?_
        refine ab_wk (ls2 := [some _, some _, none, some _, some _, some _, some _, none]) (And.intro rfl (And.intro rfl (And.intro rfl (And.intro rfl (And.intro rfl (And.intro rfl trivial)))))) ?_
        refine mo_eqv ?_ (ih _ _ _ _ _ _ _ hD)
        first | (rw [Fwrites_62]; (try dsimp only); rw [if_neg c_66, if_neg c_76]; done) | (rw [Fwrites_62]; (try dsimp only); rw [if_neg c_66, if_neg c_76]; rfl)
def Fwrites (u : Nat) (s : Nat) (f : Nat) (v : Int32) (m : mD) : mD :=
  if (m 15 s) = (nI (32)) then
    let z21 := Ftells 2 u (-4) m
    z21
  else
    let m2 := ab_up m 0 37 (nI (u))
    let m3 := ab_up m2 0 38 (nI (s))
    let m4 := ab_up m3 0 39 (v)
    if (m 15 s) = (m4 17 f) then
      if ((m 15 s) - (m 15 s) / (nI (8)) * (nI (8))) = 0 then
        Fwrites_62 25 u s f v (m 15 s) 0 m4
      else
        let m13 := ab_up m4 0 36 (nI (2))
        let m14 := ab_up m13 0 40 (nI (20))
        let m17 := ab_up m14 0 41 (m14 18 (((nI (4 * f)) + ((m 15 s) / (nI (8)))).toNatClampNeg))
        let z19 := FasksDriver  m17
        z19
    else
      let m6 := ab_up m4 0 36 (nI (2))
      let m7 := ab_up m6 0 40 (nI (20))
      let m10 := ab_up m7 0 41 (m7 18 (((nI (4 * f)) + ((m 15 s) / (nI (8)))).toNatClampNeg))
      let z12 := FasksDriver  m10
      z12
def Dwrites (u : Nat) (s : Nat) (f : Nat) (v : Int32) (m : mD) : Prop :=
  (s < 48) ∧
  (((m 15 s) = (nI (32))) →
    (Dtells 2 u (-4) m) ∧
    let z21 := Ftells 2 u (-4) m
    True) ∧
  (¬ ((m 15 s) = (nI (32))) →
    let m2 := ab_up m 0 37 (nI (u))
    let m3 := ab_up m2 0 38 (nI (s))
    let m4 := ab_up m3 0 39 (v)
    (f < 16) ∧
    (((m 15 s) = (m4 17 f)) →
      ((((m 15 s) - (m 15 s) / (nI (8)) * (nI (8))) = 0) →
        Dwrites_62 25 u s f v (m 15 s) 0 m4) ∧
      (¬ (((m 15 s) - (m 15 s) / (nI (8)) * (nI (8))) = 0) →
        let m13 := ab_up m4 0 36 (nI (2))
        let m14 := ab_up m13 0 40 (nI (20))
        (¬ ((nI (4 * f)) + ((m 15 s) / (nI (8)))) < 0) ∧
        ((((nI (4 * f)) + ((m 15 s) / (nI (8)))).toNatClampNeg) < 64) ∧
        let m17 := ab_up m14 0 41 (m14 18 (((nI (4 * f)) + ((m 15 s) / (nI (8)))).toNatClampNeg))
        (DasksDriver  m17) ∧
        let z19 := FasksDriver  m17
        True)) ∧
    (¬ ((m 15 s) = (m4 17 f)) →
      let m6 := ab_up m4 0 36 (nI (2))
      let m7 := ab_up m6 0 40 (nI (20))
      (¬ ((nI (4 * f)) + ((m 15 s) / (nI (8)))) < 0) ∧
      ((((nI (4 * f)) + ((m 15 s) / (nI (8)))).toNatClampNeg) < 64) ∧
      let m10 := ab_up m7 0 41 (m7 18 (((nI (4 * f)) + ((m 15 s) / (nI (8)))).toNatClampNeg))
      (DasksDriver  m10) ∧
      let z12 := FasksDriver  m10
      True))
set_option maxRecDepth 100000 in
set_option maxHeartbeats 4000000 in
theorem c_writes {tt : Prop} (u : Nat) (s : Nat) (f : Nat) (v : Int32) (m : mD) (hD : Dwrites u s f v m) : ab_Met mX11_writes 5 0 0 tt [.ref (0), .int (nI (u)), .int (nI (s)), .int (nI (f)), .int (v)] (sM m) (mQv (Fwrites u s f v m)) := by
  refine ab_Met.of rfl (Nat.le_of_ble_eq_true rfl) ?_
  show mV mX11_writes 5 tt (mQv (Fwrites u s f v m)) 0 [some (.ref (0)), some (.int (nI (u))), some (.int (nI (s))), some (.int (nI (f))), some (.int (v)), none, none, none] [] m
  refine ab_aload_n (pc := 0) dX11_writes_0 rfl rfl ?_
  refine mo_gr (pc := 1) dX11_writes_1 fl_X11_95 rfl rfl ?_
  refine ab_iload_n (pc := 4) dX11_writes_4 rfl rfl ?_
  obtain ⟨o1, hD⟩ := hD
  refine mo_ild (pc := 5) dX11_writes_5 (by decide) rfl o1 (by decide) ?_
  refine ab_istore (pc := 6) dX11_writes_6 (Nat.le_of_ble_eq_true rfl) rfl ?_
  refine ab_iload (pc := 8) dX11_writes_8 rfl ?_
  refine ab_bipush (pc := 10) (v := nI 32) dX11_writes_10 (by decide) ?_
  refine ab_icmp_ne (pc := 12) (tgt := 24) dX11_writes_12 (by decide) (fun c_12 => ?_) (fun c_12 => ?_)
  · replace hD := hD.2 c_12
    refine ab_aload_n (pc := 24) dX11_writes_24 rfl rfl ?_
    refine ab_iload_n (pc := 25) dX11_writes_25 rfl rfl ?_
    refine mo_pi (pc := 26) dX11_writes_26 fl_X11_213 rfl rfl (ab_ok_i _) ?_
    refine ab_aload_n (pc := 29) dX11_writes_29 rfl rfl ?_
    refine ab_iload_n (pc := 30) dX11_writes_30 rfl rfl ?_
    refine mo_pi (pc := 31) dX11_writes_31 fl_X11_216 rfl rfl (ab_ok_i _) ?_
    refine ab_aload_n (pc := 34) dX11_writes_34 rfl rfl ?_
    refine ab_iload (pc := 35) dX11_writes_35 rfl ?_
    refine mo_pi (pc := 37) dX11_writes_37 fl_X11_222 rfl rfl (ab_ok_i _) ?_
    refine ab_iload (pc := 40) dX11_writes_40 rfl ?_
    refine ab_aload_n (pc := 42) dX11_writes_42 rfl rfl ?_
    refine mo_gr (pc := 43) dX11_writes_43 fl_X11_101 rfl rfl ?_
    refine ab_iload_n (pc := 46) dX11_writes_46 rfl rfl ?_
    obtain ⟨o5, hD⟩ := hD
    refine mo_ild (pc := 47) dX11_writes_47 (by decide) rfl o5 (by decide) ?_
    refine ab_icmp_ne (pc := 48) (tgt := 173) dX11_writes_48 (by decide) (fun c_48 => ?_) (fun c_48 => ?_)
    · replace hD := hD.2 c_48
      refine ab_aload_n (pc := 173) dX11_writes_173 rfl rfl ?_
      refine ab_iconst (pc := 174) (v := nI 2) dX11_writes_174 (by decide) ?_
      refine mo_pi (pc := 175) dX11_writes_175 fl_X11_219 rfl rfl (ab_ok_i _) ?_
      refine ab_aload_n (pc := 178) dX11_writes_178 rfl rfl ?_
      refine ab_bipush (pc := 179) (v := nI 20) dX11_writes_179 (by decide) ?_
      refine mo_pi (pc := 181) dX11_writes_181 fl_X11_186 rfl rfl (ab_ok_i _) ?_
      refine ab_aload_n (pc := 184) dX11_writes_184 rfl rfl ?_
      refine ab_aload_n (pc := 185) dX11_writes_185 rfl rfl ?_
      refine mo_gr (pc := 186) dX11_writes_186 fl_X11_104 rfl rfl ?_
      refine ab_iconst (pc := 189) (v := nI 4) dX11_writes_189 (by decide) ?_
      refine ab_iload_n (pc := 190) dX11_writes_190 rfl rfl ?_
      refine ab_imulN (pc := 191) dX11_writes_191 ?_
      refine ab_iload (pc := 192) dX11_writes_192 rfl ?_
      refine ab_bipush (pc := 194) (v := nI 8) dX11_writes_194 (by decide) ?_
      refine ab_idiv (pc := 196) dX11_writes_196 (by decide) ?_
      refine ab_iadd (pc := 197) dX11_writes_197 ?_
      obtain ⟨o8, hD⟩ := hD
      refine ab_nat1 (ab_nat o8) ?_
      obtain ⟨o9, hD⟩ := hD
      refine mo_ild (pc := 198) dX11_writes_198 (by decide) rfl o9 (by decide) ?_
      refine mo_pi (pc := 199) dX11_writes_199 fl_X11_189 rfl rfl (ab_ok_i _) ?_
      refine ab_aload_n (pc := 202) dX11_writes_202 rfl rfl ?_
      obtain ⟨o11, hD⟩ := hD
      refine mo_invv (N := mX11_asksDriver) (pc := 203) (d' := 4) (av := []) dX11_writes_203 ml_X11_172 fv_X11_asksDriver (Nat.le_of_ble_eq_true rfl) (by decide) (c_asksDriver  _ o11) ?_
      refine mo_vr (pc := 206) dX11_writes_206 rfl ?_
      first | (rw [Fwrites]; (try dsimp only); rw [if_neg c_12, if_neg c_48]; done) | (rw [Fwrites]; (try dsimp only); rw [if_neg c_12, if_neg c_48]; rfl)
    · replace hD := hD.1 c_48
      refine ab_iload (pc := 51) dX11_writes_51 rfl ?_
      refine ab_bipush (pc := 53) (v := nI 8) dX11_writes_53 (by decide) ?_
      refine ab_irem (pc := 55) dX11_writes_55 (by decide) ?_
      refine ab_if_ne (pc := 56) (tgt := 173) dX11_writes_56 (by decide) (fun c_56 => ?_) (fun c_56 => ?_)
      · replace hD := hD.2 c_56
        refine ab_aload_n (pc := 173) dX11_writes_173 rfl rfl ?_
        refine ab_iconst (pc := 174) (v := nI 2) dX11_writes_174 (by decide) ?_
        refine mo_pi (pc := 175) dX11_writes_175 fl_X11_219 rfl rfl (ab_ok_i _) ?_
        refine ab_aload_n (pc := 178) dX11_writes_178 rfl rfl ?_
        refine ab_bipush (pc := 179) (v := nI 20) dX11_writes_179 (by decide) ?_
        refine mo_pi (pc := 181) dX11_writes_181 fl_X11_186 rfl rfl (ab_ok_i _) ?_
        refine ab_aload_n (pc := 184) dX11_writes_184 rfl rfl ?_
        refine ab_aload_n (pc := 185) dX11_writes_185 rfl rfl ?_
        refine mo_gr (pc := 186) dX11_writes_186 fl_X11_104 rfl rfl ?_
        refine ab_iconst (pc := 189) (v := nI 4) dX11_writes_189 (by decide) ?_
        refine ab_iload_n (pc := 190) dX11_writes_190 rfl rfl ?_
        refine ab_imulN (pc := 191) dX11_writes_191 ?_
        refine ab_iload (pc := 192) dX11_writes_192 rfl ?_
        refine ab_bipush (pc := 194) (v := nI 8) dX11_writes_194 (by decide) ?_
        refine ab_idiv (pc := 196) dX11_writes_196 (by decide) ?_
        refine ab_iadd (pc := 197) dX11_writes_197 ?_
        obtain ⟨o15, hD⟩ := hD
        refine ab_nat1 (ab_nat o15) ?_
        obtain ⟨o16, hD⟩ := hD
        refine mo_ild (pc := 198) dX11_writes_198 (by decide) rfl o16 (by decide) ?_
        refine mo_pi (pc := 199) dX11_writes_199 fl_X11_189 rfl rfl (ab_ok_i _) ?_
        refine ab_aload_n (pc := 202) dX11_writes_202 rfl rfl ?_
        obtain ⟨o18, hD⟩ := hD
        refine mo_invv (N := mX11_asksDriver) (pc := 203) (d' := 4) (av := []) dX11_writes_203 ml_X11_172 fv_X11_asksDriver (Nat.le_of_ble_eq_true rfl) (by decide) (c_asksDriver  _ o18) ?_
        refine mo_vr (pc := 206) dX11_writes_206 rfl ?_
        first | (rw [Fwrites]; (try dsimp only); rw [if_neg c_12, if_pos c_48, if_neg c_56]; done) | (rw [Fwrites]; (try dsimp only); rw [if_neg c_12, if_pos c_48, if_neg c_56]; rfl)
      · replace hD := hD.1 c_56
        refine ab_iconst (pc := 59) (v := nI 0) dX11_writes_59 (by decide) ?_
        refine ab_istore (pc := 60) dX11_writes_60 (Nat.le_of_ble_eq_true rfl) rfl ?_
        refine ab_wk (ls2 := [some _, some _, none, some _, some _, some _, some _, none]) (And.intro rfl (And.intro rfl (And.intro rfl (And.intro rfl (And.intro rfl (And.intro rfl trivial)))))) ?_
        refine mo_eqv ?_ (w_writes_62 25 _ _ _ _ _ _ _ hD)
        first | (rw [Fwrites]; (try dsimp only); rw [if_neg c_12, if_pos c_48, if_pos c_56]; done) | (rw [Fwrites]; (try dsimp only); rw [if_neg c_12, if_pos c_48, if_pos c_56]; rfl)
  · replace hD := hD.1 c_12
    refine ab_aload_n (pc := 15) dX11_writes_15 rfl rfl ?_
    refine ab_iconst (pc := 16) (v := nI 2) dX11_writes_16 (by decide) ?_
    refine ab_iload_n (pc := 17) dX11_writes_17 rfl rfl ?_
    refine ab_bipush (pc := 18) (v := -4) dX11_writes_18 (by decide) ?_
    obtain ⟨o20, hD⟩ := hD
    refine mo_invv (N := mX11_tells) (pc := 20) (d' := 4) (av := [_, _, _]) dX11_writes_20 ml_X11_196 fv_X11_tells (Nat.le_of_ble_eq_true rfl) (by decide) (c_tells _ _ _ _ o20) ?_
    refine mo_vr (pc := 23) dX11_writes_23 rfl ?_
    first | (rw [Fwrites]; (try dsimp only); rw [if_pos c_12]; done) | (rw [Fwrites]; (try dsimp only); rw [if_pos c_12]; rfl)
def FgoesOn_79 : Nat → Int32 → Nat → mD → mD
  | 0, _, _, m => m
  | n + 1, a2, a3, m =>
    if 8 ≤ a3 then
      let m40 := ab_up m 0 36 (nI (3))
      let m41 := ab_up m40 0 40 (nI (21))
      let z43 := FasksDriver  m41
      z43
    else
      if (nI (a3)) = ((a2) - (a2) / (nI (8)) * (nI (8))) then
        let m48 := ab_up m 22 a3 (m 0 39)
        FgoesOn_79 n (a2) (a3 + 1) m48
      else
        let m46 := ab_up m 22 a3 (m 6 (5 + a3))
        FgoesOn_79 n (a2) (a3 + 1) m46
def DgoesOn_79 : Nat → Int32 → Nat → mD → Prop
  | 0, _, _, _ => False
  | n + 1, a2, a3, m =>
    (a3 < 2147483648) ∧
    ((8 ≤ a3) →
      let m40 := ab_up m 0 36 (nI (3))
      let m41 := ab_up m40 0 40 (nI (21))
      (DasksDriver  m41) ∧
      let z43 := FasksDriver  m41
      True) ∧
    (¬ (8 ≤ a3) →
      (((nI (a3)) = ((a2) - (a2) / (nI (8)) * (nI (8)))) →
        (a3 < 8) ∧
        let m48 := ab_up m 22 a3 (m 0 39)
        DgoesOn_79 n (a2) (a3 + 1) m48) ∧
      (¬ ((nI (a3)) = ((a2) - (a2) / (nI (8)) * (nI (8)))) →
        ((5 + a3) < 13) ∧
        (a3 < 8) ∧
        let m46 := ab_up m 22 a3 (m 6 (5 + a3))
        DgoesOn_79 n (a2) (a3 + 1) m46))
set_option maxRecDepth 100000 in
set_option maxHeartbeats 4000000 in
theorem w_goesOn_79 {tt : Prop} : ∀ (n : Nat) (a2 : Int32) (a3 : Nat) (m : mD) (hD : DgoesOn_79 n a2 a3 m), mV mX11_goesOn 5 tt (mQv (FgoesOn_79 n a2 a3 m)) 79 [some (.ref (0)), none, some (.int (a2)), some (.int (nI (a3)))] [] m := by
  intro n
  induction n with
  | zero => intros; rename_i hD; exact hD.elim
  | succ n ih =>
    intro a2 a3 m hD
    refine ab_iload_n (pc := 79) dX11_goesOn_79 rfl rfl ?_
    refine ab_bipush (pc := 80) (v := nI 8) dX11_goesOn_80 (by decide) ?_
    obtain ⟨o39, hD⟩ := hD
    refine ab_icmp_geN (pc := 82) (tgt := 120) dX11_goesOn_82 (by decide) o39 (by decide) (fun c_82 => ?_) (fun c_82 => ?_)
    · replace hD := hD.1 c_82
      refine ab_aload_n (pc := 120) dX11_goesOn_120 rfl rfl ?_
      refine ab_iconst (pc := 121) (v := nI 3) dX11_goesOn_121 (by decide) ?_
      refine mo_pi (pc := 122) dX11_goesOn_122 fl_X11_219 rfl rfl (ab_ok_i _) ?_
      refine ab_aload_n (pc := 125) dX11_goesOn_125 rfl rfl ?_
      refine ab_bipush (pc := 126) (v := nI 21) dX11_goesOn_126 (by decide) ?_
      refine mo_pi (pc := 128) dX11_goesOn_128 fl_X11_186 rfl rfl (ab_ok_i _) ?_
      refine ab_aload_n (pc := 131) dX11_goesOn_131 rfl rfl ?_
      obtain ⟨o42, hD⟩ := hD
      refine mo_invv (N := mX11_asksDriver) (pc := 132) (d' := 4) (av := []) dX11_goesOn_132 ml_X11_172 fv_X11_asksDriver (Nat.le_of_ble_eq_true rfl) (by decide) (c_asksDriver  _ o42) ?_
      refine ab_goto (pc := 135) (tgt := 185) dX11_goesOn_135 (by decide) ?_
      refine mo_vr (pc := 185) dX11_goesOn_185 rfl ?_
      first | (rw [FgoesOn_79]; (try dsimp only); rw [if_pos c_82]; done) | (rw [FgoesOn_79]; (try dsimp only); rw [if_pos c_82]; rfl)
    · replace hD := hD.2 c_82
      refine ab_aload_n (pc := 85) dX11_goesOn_85 rfl rfl ?_
      refine mo_gr (pc := 86) dX11_goesOn_86 fl_X11_116 rfl rfl ?_
      refine ab_iload_n (pc := 89) dX11_goesOn_89 rfl rfl ?_
      refine ab_iload_n (pc := 90) dX11_goesOn_90 rfl rfl ?_
      refine ab_iload_n (pc := 91) dX11_goesOn_91 rfl rfl ?_
      refine ab_bipush (pc := 92) (v := nI 8) dX11_goesOn_92 (by decide) ?_
      refine ab_irem (pc := 94) dX11_goesOn_94 (by decide) ?_
      refine ab_icmp_ne (pc := 95) (tgt := 105) dX11_goesOn_95 (by decide) (fun c_95 => ?_) (fun c_95 => ?_)
      · replace hD := hD.2 c_95
        refine ab_aload_n (pc := 105) dX11_goesOn_105 rfl rfl ?_
        refine mo_gr (pc := 106) dX11_goesOn_106 fl_X11_61 rfl rfl ?_
        refine ab_iconst (pc := 109) (v := nI 5) dX11_goesOn_109 (by decide) ?_
        refine ab_iload_n (pc := 110) dX11_goesOn_110 rfl rfl ?_
        refine ab_iaddN (pc := 111) dX11_goesOn_111 ?_
        obtain ⟨o44, hD⟩ := hD
        refine mo_ild (pc := 112) dX11_goesOn_112 (by decide) rfl o44 (by decide) ?_
        obtain ⟨o45, hD⟩ := hD
        refine mo_ist (pc := 113) dX11_goesOn_113 (by decide) rfl o45 (by decide) ?_
        refine ab_iinc (pc := 114) dX11_goesOn_114 rfl (ab_inc _) (Nat.le_of_ble_eq_true rfl) rfl ?_
        refine ab_goto (pc := 117) (tgt := 79) dX11_goesOn_117 (by decide) ?_
        refine ab_wk (ls2 := [some _, none, some _, some _]) (And.intro rfl (And.intro rfl (And.intro rfl trivial))) ?_
        refine mo_eqv ?_ (ih _ _ _ hD)
        first | (rw [FgoesOn_79]; (try dsimp only); rw [if_neg c_82, if_neg c_95]; done) | (rw [FgoesOn_79]; (try dsimp only); rw [if_neg c_82, if_neg c_95]; rfl)
      · replace hD := hD.1 c_95
        refine ab_aload_n (pc := 98) dX11_goesOn_98 rfl rfl ?_
        refine mo_gi (pc := 99) dX11_goesOn_99 fl_X11_222 rfl ?_
        refine ab_goto (pc := 102) (tgt := 113) dX11_goesOn_102 (by decide) ?_
        obtain ⟨o47, hD⟩ := hD
        refine mo_ist (pc := 113) dX11_goesOn_113 (by decide) rfl o47 (by decide) ?_
        refine ab_iinc (pc := 114) dX11_goesOn_114 rfl (ab_inc _) (Nat.le_of_ble_eq_true rfl) rfl ?_
        refine ab_goto (pc := 117) (tgt := 79) dX11_goesOn_117 (by decide) ?_
        refine ab_wk (ls2 := [some _, none, some _, some _]) (And.intro rfl (And.intro rfl (And.intro rfl trivial))) ?_
        refine mo_eqv ?_ (ih _ _ _ hD)
        first | (rw [FgoesOn_79]; (try dsimp only); rw [if_neg c_82, if_pos c_95]; done) | (rw [FgoesOn_79]; (try dsimp only); rw [if_neg c_82, if_pos c_95]; rfl)
def FgoesOn  (m : mD) : mD :=
  let m5 := ab_up m 0 35 (nI (0))
  if (m5 0 36) = (nI (1)) then
    let m33 := ab_up m5 15 ((m5 0 38).toNatClampNeg) ((m5 15 ((m5 0 38).toNatClampNeg)) + (nI (1)))
    let z38 := Ftells 2 ((m33 0 37).toNatClampNeg) (m33 6 (((nI (5)) + ((m 15 ((m 0 38).toNatClampNeg)) - (m 15 ((m 0 38).toNatClampNeg)) / (nI (8)) * (nI (8)))).toNatClampNeg)) m33
    z38
  else
    if (m5 0 36) = (nI (2)) then
      FgoesOn_79 9 (m 15 ((m 0 38).toNatClampNeg)) 0 m5
    else
      if (m 15 ((m 0 38).toNatClampNeg)) = (m5 17 ((m 14 ((m 0 38).toNatClampNeg)).toNatClampNeg)) then
        let m22 := ab_up m5 17 ((m 14 ((m 0 38).toNatClampNeg)).toNatClampNeg) ((m5 17 ((m 14 ((m 0 38).toNatClampNeg)).toNatClampNeg)) + (nI (1)))
        let m26 := ab_up m22 15 ((m22 0 38).toNatClampNeg) ((m22 15 ((m22 0 38).toNatClampNeg)) + (nI (1)))
        let z29 := Ftells 2 ((m26 0 37).toNatClampNeg) (nI (0)) m26
        z29
      else
        let m12 := ab_up m5 17 ((m 14 ((m 0 38).toNatClampNeg)).toNatClampNeg) ((m5 17 ((m 14 ((m 0 38).toNatClampNeg)).toNatClampNeg)) + (nI (0)))
        let m16 := ab_up m12 15 ((m12 0 38).toNatClampNeg) ((m12 15 ((m12 0 38).toNatClampNeg)) + (nI (1)))
        let z19 := Ftells 2 ((m16 0 37).toNatClampNeg) (nI (0)) m16
        z19
def DgoesOn  (m : mD) : Prop :=
  (¬ (m 0 38) < 0) ∧
  (((m 0 38).toNatClampNeg) < 48) ∧
  (¬ (m 0 38) < 0) ∧
  (((m 0 38).toNatClampNeg) < 48) ∧
  let m5 := ab_up m 0 35 (nI (0))
  (((m5 0 36) = (nI (1))) →
    (¬ (m5 0 38) < 0) ∧
    (((m5 0 38).toNatClampNeg) < 48) ∧
    (((m5 0 38).toNatClampNeg) < 48) ∧
    let m33 := ab_up m5 15 ((m5 0 38).toNatClampNeg) ((m5 15 ((m5 0 38).toNatClampNeg)) + (nI (1)))
    (¬ ((nI (5)) + ((m 15 ((m 0 38).toNatClampNeg)) - (m 15 ((m 0 38).toNatClampNeg)) / (nI (8)) * (nI (8)))) < 0) ∧
    ((((nI (5)) + ((m 15 ((m 0 38).toNatClampNeg)) - (m 15 ((m 0 38).toNatClampNeg)) / (nI (8)) * (nI (8)))).toNatClampNeg) < 13) ∧
    (¬ (m33 0 37) < 0) ∧
    (Dtells 2 ((m33 0 37).toNatClampNeg) (m33 6 (((nI (5)) + ((m 15 ((m 0 38).toNatClampNeg)) - (m 15 ((m 0 38).toNatClampNeg)) / (nI (8)) * (nI (8)))).toNatClampNeg)) m33) ∧
    let z38 := Ftells 2 ((m33 0 37).toNatClampNeg) (m33 6 (((nI (5)) + ((m 15 ((m 0 38).toNatClampNeg)) - (m 15 ((m 0 38).toNatClampNeg)) / (nI (8)) * (nI (8)))).toNatClampNeg)) m33
    True) ∧
  (¬ ((m5 0 36) = (nI (1))) →
    (((m5 0 36) = (nI (2))) →
      DgoesOn_79 9 (m 15 ((m 0 38).toNatClampNeg)) 0 m5) ∧
    (¬ ((m5 0 36) = (nI (2))) →
      (¬ (m 14 ((m 0 38).toNatClampNeg)) < 0) ∧
      (((m 14 ((m 0 38).toNatClampNeg)).toNatClampNeg) < 16) ∧
      (¬ (m 14 ((m 0 38).toNatClampNeg)) < 0) ∧
      (((m 14 ((m 0 38).toNatClampNeg)).toNatClampNeg) < 16) ∧
      (((m 15 ((m 0 38).toNatClampNeg)) = (m5 17 ((m 14 ((m 0 38).toNatClampNeg)).toNatClampNeg))) →
        (¬ (m 14 ((m 0 38).toNatClampNeg)) < 0) ∧
        (((m 14 ((m 0 38).toNatClampNeg)).toNatClampNeg) < 16) ∧
        let m22 := ab_up m5 17 ((m 14 ((m 0 38).toNatClampNeg)).toNatClampNeg) ((m5 17 ((m 14 ((m 0 38).toNatClampNeg)).toNatClampNeg)) + (nI (1)))
        (¬ (m22 0 38) < 0) ∧
        (((m22 0 38).toNatClampNeg) < 48) ∧
        (((m22 0 38).toNatClampNeg) < 48) ∧
        let m26 := ab_up m22 15 ((m22 0 38).toNatClampNeg) ((m22 15 ((m22 0 38).toNatClampNeg)) + (nI (1)))
        (¬ (m26 0 37) < 0) ∧
        (Dtells 2 ((m26 0 37).toNatClampNeg) (nI (0)) m26) ∧
        let z29 := Ftells 2 ((m26 0 37).toNatClampNeg) (nI (0)) m26
        True) ∧
      (¬ ((m 15 ((m 0 38).toNatClampNeg)) = (m5 17 ((m 14 ((m 0 38).toNatClampNeg)).toNatClampNeg))) →
        (¬ (m 14 ((m 0 38).toNatClampNeg)) < 0) ∧
        (((m 14 ((m 0 38).toNatClampNeg)).toNatClampNeg) < 16) ∧
        let m12 := ab_up m5 17 ((m 14 ((m 0 38).toNatClampNeg)).toNatClampNeg) ((m5 17 ((m 14 ((m 0 38).toNatClampNeg)).toNatClampNeg)) + (nI (0)))
        (¬ (m12 0 38) < 0) ∧
        (((m12 0 38).toNatClampNeg) < 48) ∧
        (((m12 0 38).toNatClampNeg) < 48) ∧
        let m16 := ab_up m12 15 ((m12 0 38).toNatClampNeg) ((m12 15 ((m12 0 38).toNatClampNeg)) + (nI (1)))
        (¬ (m16 0 37) < 0) ∧
        (Dtells 2 ((m16 0 37).toNatClampNeg) (nI (0)) m16) ∧
        let z19 := Ftells 2 ((m16 0 37).toNatClampNeg) (nI (0)) m16
        True)))
set_option maxRecDepth 100000 in
set_option maxHeartbeats 4000000 in
theorem c_goesOn {tt : Prop}  (m : mD) (hD : DgoesOn  m) : ab_Met mX11_goesOn 5 0 0 tt [.ref (0)] (sM m) (mQv (FgoesOn  m)) := by
  refine ab_Met.of rfl (Nat.le_of_ble_eq_true rfl) ?_
  show mV mX11_goesOn 5 tt (mQv (FgoesOn  m)) 0 [some (.ref (0)), none, none, none] [] m
  refine ab_aload_n (pc := 0) dX11_goesOn_0 rfl rfl ?_
  refine mo_gr (pc := 1) dX11_goesOn_1 fl_X11_92 rfl rfl ?_
  refine ab_aload_n (pc := 4) dX11_goesOn_4 rfl rfl ?_
  refine mo_gi (pc := 5) dX11_goesOn_5 fl_X11_216 rfl ?_
  obtain ⟨o1, hD⟩ := hD
  refine ab_nat1 (ab_nat o1) ?_
  obtain ⟨o2, hD⟩ := hD
  refine mo_ild (pc := 8) dX11_goesOn_8 (by decide) rfl o2 (by decide) ?_
  refine ab_istore_n (pc := 9) dX11_goesOn_9 rfl (Nat.le_of_ble_eq_true rfl) rfl ?_
  refine ab_aload_n (pc := 10) dX11_goesOn_10 rfl rfl ?_
  refine mo_gr (pc := 11) dX11_goesOn_11 fl_X11_95 rfl rfl ?_
  refine ab_aload_n (pc := 14) dX11_goesOn_14 rfl rfl ?_
  refine mo_gi (pc := 15) dX11_goesOn_15 fl_X11_216 rfl ?_
  obtain ⟨o3, hD⟩ := hD
  refine ab_nat1 (ab_nat o3) ?_
  obtain ⟨o4, hD⟩ := hD
  refine mo_ild (pc := 18) dX11_goesOn_18 (by decide) rfl o4 (by decide) ?_
  refine ab_istore_n (pc := 19) dX11_goesOn_19 rfl (Nat.le_of_ble_eq_true rfl) rfl ?_
  refine ab_aload_n (pc := 20) dX11_goesOn_20 rfl rfl ?_
  refine ab_iconst (pc := 21) (v := nI 0) dX11_goesOn_21 (by decide) ?_
  refine mo_pi (pc := 22) dX11_goesOn_22 fl_X11_166 rfl rfl (ab_ok_b (Or.inl rfl)) ?_
  refine ab_aload_n (pc := 25) dX11_goesOn_25 rfl rfl ?_
  refine mo_gi (pc := 26) dX11_goesOn_26 fl_X11_219 rfl ?_
  refine ab_iconst (pc := 29) (v := nI 1) dX11_goesOn_29 (by decide) ?_
  refine ab_icmp_ne (pc := 30) (tgt := 69) dX11_goesOn_30 (by decide) (fun c_30 => ?_) (fun c_30 => ?_)
  · replace hD := hD.2 c_30
    refine ab_aload_n (pc := 69) dX11_goesOn_69 rfl rfl ?_
    refine mo_gi (pc := 70) dX11_goesOn_70 fl_X11_219 rfl ?_
    refine ab_iconst (pc := 73) (v := nI 2) dX11_goesOn_73 (by decide) ?_
    refine ab_icmp_ne (pc := 74) (tgt := 138) dX11_goesOn_74 (by decide) (fun c_74 => ?_) (fun c_74 => ?_)
    · replace hD := hD.2 c_74
      refine ab_aload_n (pc := 138) dX11_goesOn_138 rfl rfl ?_
      refine mo_gr (pc := 139) dX11_goesOn_139 fl_X11_101 rfl rfl ?_
      refine ab_iload_n (pc := 142) dX11_goesOn_142 rfl rfl ?_
      refine ab_dup2 (pc := 143) dX11_goesOn_143 rfl rfl ?_
      obtain ⟨o6, hD⟩ := hD
      refine ab_nat1 (ab_nat o6) ?_
      obtain ⟨o7, hD⟩ := hD
      refine mo_ild (pc := 144) dX11_goesOn_144 (by decide) rfl o7 (by decide) ?_
      refine ab_iload_n (pc := 145) dX11_goesOn_145 rfl rfl ?_
      refine ab_aload_n (pc := 146) dX11_goesOn_146 rfl rfl ?_
      refine mo_gr (pc := 147) dX11_goesOn_147 fl_X11_101 rfl rfl ?_
      refine ab_iload_n (pc := 150) dX11_goesOn_150 rfl rfl ?_
      obtain ⟨o8, hD⟩ := hD
      refine ab_nat1 (ab_nat o8) ?_
      obtain ⟨o9, hD⟩ := hD
      refine mo_ild (pc := 151) dX11_goesOn_151 (by decide) rfl o9 (by decide) ?_
      refine ab_icmp_ne (pc := 152) (tgt := 159) dX11_goesOn_152 (by decide) (fun c_152 => ?_) (fun c_152 => ?_)
      · replace hD := hD.2 c_152
        refine ab_iconst (pc := 159) (v := nI 0) dX11_goesOn_159 (by decide) ?_
        refine ab_iadd (pc := 160) dX11_goesOn_160 ?_
        obtain ⟨o10, hD⟩ := hD
        refine ab_nat3 (ab_nat o10) ?_
        obtain ⟨o11, hD⟩ := hD
        refine mo_ist (pc := 161) dX11_goesOn_161 (by decide) rfl o11 (by decide) ?_
        refine ab_aload_n (pc := 162) dX11_goesOn_162 rfl rfl ?_
        refine mo_gr (pc := 163) dX11_goesOn_163 fl_X11_95 rfl rfl ?_
        refine ab_aload_n (pc := 166) dX11_goesOn_166 rfl rfl ?_
        refine mo_gi (pc := 167) dX11_goesOn_167 fl_X11_216 rfl ?_
        obtain ⟨o13, hD⟩ := hD
        refine ab_nat1 (ab_nat o13) ?_
        refine ab_dup2 (pc := 170) dX11_goesOn_170 rfl rfl ?_
        obtain ⟨o14, hD⟩ := hD
        refine mo_ild (pc := 171) dX11_goesOn_171 (by decide) rfl o14 (by decide) ?_
        refine ab_iconst (pc := 172) (v := nI 1) dX11_goesOn_172 (by decide) ?_
        refine ab_iadd (pc := 173) dX11_goesOn_173 ?_
        obtain ⟨o15, hD⟩ := hD
        refine mo_ist (pc := 174) dX11_goesOn_174 (by decide) rfl o15 (by decide) ?_
        refine ab_aload_n (pc := 175) dX11_goesOn_175 rfl rfl ?_
        refine ab_iconst (pc := 176) (v := nI 2) dX11_goesOn_176 (by decide) ?_
        refine ab_aload_n (pc := 177) dX11_goesOn_177 rfl rfl ?_
        refine mo_gi (pc := 178) dX11_goesOn_178 fl_X11_213 rfl ?_
        refine ab_iconst (pc := 181) (v := nI 0) dX11_goesOn_181 (by decide) ?_
        obtain ⟨o17, hD⟩ := hD
        refine ab_stk3 rfl (congrArg Value.int (ab_nat o17)) rfl ?_
        obtain ⟨o18, hD⟩ := hD
        refine mo_invv (N := mX11_tells) (pc := 182) (d' := 4) (av := [_, _, _]) dX11_goesOn_182 ml_X11_196 fv_X11_tells (Nat.le_of_ble_eq_true rfl) (by decide) (c_tells _ _ _ _ o18) ?_
        refine mo_vr (pc := 185) dX11_goesOn_185 rfl ?_
        first | (rw [FgoesOn]; (try dsimp only); rw [if_neg c_30, if_neg c_74, if_neg c_152]; done) | (rw [FgoesOn]; (try dsimp only); rw [if_neg c_30, if_neg c_74, if_neg c_152]; rfl)
      · replace hD := hD.1 c_152
        refine ab_iconst (pc := 155) (v := nI 1) dX11_goesOn_155 (by decide) ?_
        refine ab_goto (pc := 156) (tgt := 160) dX11_goesOn_156 (by decide) ?_
        refine ab_iadd (pc := 160) dX11_goesOn_160 ?_
        obtain ⟨o20, hD⟩ := hD
        refine ab_nat3 (ab_nat o20) ?_
        obtain ⟨o21, hD⟩ := hD
        refine mo_ist (pc := 161) dX11_goesOn_161 (by decide) rfl o21 (by decide) ?_
        refine ab_aload_n (pc := 162) dX11_goesOn_162 rfl rfl ?_
        refine mo_gr (pc := 163) dX11_goesOn_163 fl_X11_95 rfl rfl ?_
        refine ab_aload_n (pc := 166) dX11_goesOn_166 rfl rfl ?_
        refine mo_gi (pc := 167) dX11_goesOn_167 fl_X11_216 rfl ?_
        obtain ⟨o23, hD⟩ := hD
        refine ab_nat1 (ab_nat o23) ?_
        refine ab_dup2 (pc := 170) dX11_goesOn_170 rfl rfl ?_
        obtain ⟨o24, hD⟩ := hD
        refine mo_ild (pc := 171) dX11_goesOn_171 (by decide) rfl o24 (by decide) ?_
        refine ab_iconst (pc := 172) (v := nI 1) dX11_goesOn_172 (by decide) ?_
        refine ab_iadd (pc := 173) dX11_goesOn_173 ?_
        obtain ⟨o25, hD⟩ := hD
        refine mo_ist (pc := 174) dX11_goesOn_174 (by decide) rfl o25 (by decide) ?_
        refine ab_aload_n (pc := 175) dX11_goesOn_175 rfl rfl ?_
        refine ab_iconst (pc := 176) (v := nI 2) dX11_goesOn_176 (by decide) ?_
        refine ab_aload_n (pc := 177) dX11_goesOn_177 rfl rfl ?_
        refine mo_gi (pc := 178) dX11_goesOn_178 fl_X11_213 rfl ?_
        refine ab_iconst (pc := 181) (v := nI 0) dX11_goesOn_181 (by decide) ?_
        obtain ⟨o27, hD⟩ := hD
        refine ab_stk3 rfl (congrArg Value.int (ab_nat o27)) rfl ?_
        obtain ⟨o28, hD⟩ := hD
        refine mo_invv (N := mX11_tells) (pc := 182) (d' := 4) (av := [_, _, _]) dX11_goesOn_182 ml_X11_196 fv_X11_tells (Nat.le_of_ble_eq_true rfl) (by decide) (c_tells _ _ _ _ o28) ?_
        refine mo_vr (pc := 185) dX11_goesOn_185 rfl ?_
        first | (rw [FgoesOn]; (try dsimp only); rw [if_neg c_30, if_neg c_74, if_pos c_152]; done) | (rw [FgoesOn]; (try dsimp only); rw [if_neg c_30, if_neg c_74, if_pos c_152]; rfl)
    · replace hD := hD.1 c_74
      refine ab_iconst (pc := 77) (v := nI 0) dX11_goesOn_77 (by decide) ?_
      refine ab_istore_n (pc := 78) dX11_goesOn_78 rfl (Nat.le_of_ble_eq_true rfl) rfl ?_
      refine ab_wk (ls2 := [some _, none, some _, some _]) (And.intro rfl (And.intro rfl (And.intro rfl trivial))) ?_
      refine mo_eqv ?_ (w_goesOn_79 9 _ _ _ hD)
      first | (rw [FgoesOn]; (try dsimp only); rw [if_neg c_30, if_pos c_74]; done) | (rw [FgoesOn]; (try dsimp only); rw [if_neg c_30, if_pos c_74]; rfl)
  · replace hD := hD.1 c_30
    refine ab_aload_n (pc := 33) dX11_goesOn_33 rfl rfl ?_
    refine mo_gr (pc := 34) dX11_goesOn_34 fl_X11_95 rfl rfl ?_
    refine ab_aload_n (pc := 37) dX11_goesOn_37 rfl rfl ?_
    refine mo_gi (pc := 38) dX11_goesOn_38 fl_X11_216 rfl ?_
    obtain ⟨o30, hD⟩ := hD
    refine ab_nat1 (ab_nat o30) ?_
    refine ab_dup2 (pc := 41) dX11_goesOn_41 rfl rfl ?_
    obtain ⟨o31, hD⟩ := hD
    refine mo_ild (pc := 42) dX11_goesOn_42 (by decide) rfl o31 (by decide) ?_
    refine ab_iconst (pc := 43) (v := nI 1) dX11_goesOn_43 (by decide) ?_
    refine ab_iadd (pc := 44) dX11_goesOn_44 ?_
    obtain ⟨o32, hD⟩ := hD
    refine mo_ist (pc := 45) dX11_goesOn_45 (by decide) rfl o32 (by decide) ?_
    refine ab_aload_n (pc := 46) dX11_goesOn_46 rfl rfl ?_
    refine ab_iconst (pc := 47) (v := nI 2) dX11_goesOn_47 (by decide) ?_
    refine ab_aload_n (pc := 48) dX11_goesOn_48 rfl rfl ?_
    refine mo_gi (pc := 49) dX11_goesOn_49 fl_X11_213 rfl ?_
    refine ab_aload_n (pc := 52) dX11_goesOn_52 rfl rfl ?_
    refine mo_gr (pc := 53) dX11_goesOn_53 fl_X11_61 rfl rfl ?_
    refine ab_iconst (pc := 56) (v := nI 5) dX11_goesOn_56 (by decide) ?_
    refine ab_iload_n (pc := 57) dX11_goesOn_57 rfl rfl ?_
    refine ab_bipush (pc := 58) (v := nI 8) dX11_goesOn_58 (by decide) ?_
    refine ab_irem (pc := 60) dX11_goesOn_60 (by decide) ?_
    refine ab_iadd (pc := 61) dX11_goesOn_61 ?_
    obtain ⟨o34, hD⟩ := hD
    refine ab_nat1 (ab_nat o34) ?_
    obtain ⟨o35, hD⟩ := hD
    refine mo_ild (pc := 62) dX11_goesOn_62 (by decide) rfl o35 (by decide) ?_
    obtain ⟨o36, hD⟩ := hD
    refine ab_stk3 rfl (congrArg Value.int (ab_nat o36)) rfl ?_
    obtain ⟨o37, hD⟩ := hD
    refine mo_invv (N := mX11_tells) (pc := 63) (d' := 4) (av := [_, _, _]) dX11_goesOn_63 ml_X11_196 fv_X11_tells (Nat.le_of_ble_eq_true rfl) (by decide) (c_tells _ _ _ _ o37) ?_
    refine ab_goto (pc := 66) (tgt := 185) dX11_goesOn_66 (by decide) ?_
    refine mo_vr (pc := 185) dX11_goesOn_185 rfl ?_
    first | (rw [FgoesOn]; (try dsimp only); rw [if_pos c_30]; done) | (rw [FgoesOn]; (try dsimp only); rw [if_pos c_30]; rfl)
def Fbegins (u : Nat) (k : Int32) (a : Int32) (b : Int32) (m : mD) : mD :=
  if (k) = (nI (1)) then
    let z54 := Fopens u (a) m
    let z56 := Ftells 2 u (z54.1) z54.2
    z56
  else
    if (k) = (nI (6)) then
      let z50 := Fremoves (a) m
      let z52 := Ftells 2 u (z50.1) z50.2
      z52
    else
      if (a) < 0 then
        let z2 := Ftells 2 u (-8) m
        z2
      else
        if (nI (3)) < (a) then
          let z4 := Ftells 2 u (-8) m
          z4
        else
          if 0 ≤ (m 14 (((nI (4 * u)) + (a)).toNatClampNeg)) then
            if (k) = (nI (2)) then
              let m44 := ab_up m 14 (((nI (4 * u)) + (a)).toNatClampNeg) (-1)
              let z46 := Ftells 2 u (nI (0)) m44
              z46
            else
              if (k) = (nI (3)) then
                let z41 := Freads u (((nI (4 * u)) + (a)).toNatClampNeg) ((m 14 (((nI (4 * u)) + (a)).toNatClampNeg)).toNatClampNeg) m
                z41
              else
                if (k) = (nI (4)) then
                  let z37 := Fwrites u (((nI (4 * u)) + (a)).toNatClampNeg) ((m 14 (((nI (4 * u)) + (a)).toNatClampNeg)).toNatClampNeg) (b) m
                  z37
                else
                  if (k) = (nI (5)) then
                    if (b) < 0 then
                      let m17 := ab_up m 15 (((nI (4 * u)) + (a)).toNatClampNeg) (m 15 (((nI (4 * u)) + (a)).toNatClampNeg))
                      let z19 := Ftells 2 u (-1) m17
                      z19
                    else
                      if (m 17 ((m 14 (((nI (4 * u)) + (a)).toNatClampNeg)).toNatClampNeg)) < (b) then
                        let m26 := ab_up m 15 (((nI (4 * u)) + (a)).toNatClampNeg) (m 15 (((nI (4 * u)) + (a)).toNatClampNeg))
                        let z28 := Ftells 2 u (-1) m26
                        z28
                      else
                        let m31 := ab_up m 15 (((nI (4 * u)) + (a)).toNatClampNeg) (b)
                        let z33 := Ftells 2 u (nI (0)) m31
                        z33
                  else
                    let z12 := Ftells 2 u (m 17 ((m 14 (((nI (4 * u)) + (a)).toNatClampNeg)).toNatClampNeg)) m
                    z12
          else
            let z48 := Ftells 2 u (-8) m
            z48
def Dbegins (u : Nat) (k : Int32) (a : Int32) (b : Int32) (m : mD) : Prop :=
  (((k) = (nI (1))) →
    (Dopens u (a) m) ∧
    let z54 := Fopens u (a) m
    (Dtells 2 u (z54.1) z54.2) ∧
    let z56 := Ftells 2 u (z54.1) z54.2
    True) ∧
  (¬ ((k) = (nI (1))) →
    (((k) = (nI (6))) →
      (Dremoves (a) m) ∧
      let z50 := Fremoves (a) m
      (Dtells 2 u (z50.1) z50.2) ∧
      let z52 := Ftells 2 u (z50.1) z50.2
      True) ∧
    (¬ ((k) = (nI (6))) →
      (((a) < 0) →
        (Dtells 2 u (-8) m) ∧
        let z2 := Ftells 2 u (-8) m
        True) ∧
      (¬ ((a) < 0) →
        (((nI (3)) < (a)) →
          (Dtells 2 u (-8) m) ∧
          let z4 := Ftells 2 u (-8) m
          True) ∧
        (¬ ((nI (3)) < (a)) →
          (¬ ((nI (4 * u)) + (a)) < 0) ∧
          ((((nI (4 * u)) + (a)).toNatClampNeg) < 48) ∧
          ((0 ≤ (m 14 (((nI (4 * u)) + (a)).toNatClampNeg))) →
            (¬ ((nI (4 * u)) + (a)) < 0) ∧
            ((((nI (4 * u)) + (a)).toNatClampNeg) < 48) ∧
            (((k) = (nI (2))) →
              (¬ ((nI (4 * u)) + (a)) < 0) ∧
              ((((nI (4 * u)) + (a)).toNatClampNeg) < 48) ∧
              let m44 := ab_up m 14 (((nI (4 * u)) + (a)).toNatClampNeg) (-1)
              (Dtells 2 u (nI (0)) m44) ∧
              let z46 := Ftells 2 u (nI (0)) m44
              True) ∧
            (¬ ((k) = (nI (2))) →
              (((k) = (nI (3))) →
                (¬ ((nI (4 * u)) + (a)) < 0) ∧
                (¬ (m 14 (((nI (4 * u)) + (a)).toNatClampNeg)) < 0) ∧
                (Dreads u (((nI (4 * u)) + (a)).toNatClampNeg) ((m 14 (((nI (4 * u)) + (a)).toNatClampNeg)).toNatClampNeg) m) ∧
                let z41 := Freads u (((nI (4 * u)) + (a)).toNatClampNeg) ((m 14 (((nI (4 * u)) + (a)).toNatClampNeg)).toNatClampNeg) m
                True) ∧
              (¬ ((k) = (nI (3))) →
                (((k) = (nI (4))) →
                  (¬ ((nI (4 * u)) + (a)) < 0) ∧
                  (¬ (m 14 (((nI (4 * u)) + (a)).toNatClampNeg)) < 0) ∧
                  (Dwrites u (((nI (4 * u)) + (a)).toNatClampNeg) ((m 14 (((nI (4 * u)) + (a)).toNatClampNeg)).toNatClampNeg) (b) m) ∧
                  let z37 := Fwrites u (((nI (4 * u)) + (a)).toNatClampNeg) ((m 14 (((nI (4 * u)) + (a)).toNatClampNeg)).toNatClampNeg) (b) m
                  True) ∧
                (¬ ((k) = (nI (4))) →
                  (((k) = (nI (5))) →
                    (((b) < 0) →
                      (¬ ((nI (4 * u)) + (a)) < 0) ∧
                      ((((nI (4 * u)) + (a)).toNatClampNeg) < 48) ∧
                      (¬ ((nI (4 * u)) + (a)) < 0) ∧
                      ((((nI (4 * u)) + (a)).toNatClampNeg) < 48) ∧
                      let m17 := ab_up m 15 (((nI (4 * u)) + (a)).toNatClampNeg) (m 15 (((nI (4 * u)) + (a)).toNatClampNeg))
                      (Dtells 2 u (-1) m17) ∧
                      let z19 := Ftells 2 u (-1) m17
                      True) ∧
                    (¬ ((b) < 0) →
                      (¬ (m 14 (((nI (4 * u)) + (a)).toNatClampNeg)) < 0) ∧
                      (((m 14 (((nI (4 * u)) + (a)).toNatClampNeg)).toNatClampNeg) < 16) ∧
                      (((m 17 ((m 14 (((nI (4 * u)) + (a)).toNatClampNeg)).toNatClampNeg)) < (b)) →
                        (¬ ((nI (4 * u)) + (a)) < 0) ∧
                        ((((nI (4 * u)) + (a)).toNatClampNeg) < 48) ∧
                        (¬ ((nI (4 * u)) + (a)) < 0) ∧
                        ((((nI (4 * u)) + (a)).toNatClampNeg) < 48) ∧
                        let m26 := ab_up m 15 (((nI (4 * u)) + (a)).toNatClampNeg) (m 15 (((nI (4 * u)) + (a)).toNatClampNeg))
                        (Dtells 2 u (-1) m26) ∧
                        let z28 := Ftells 2 u (-1) m26
                        True) ∧
                      (¬ ((m 17 ((m 14 (((nI (4 * u)) + (a)).toNatClampNeg)).toNatClampNeg)) < (b)) →
                        (¬ ((nI (4 * u)) + (a)) < 0) ∧
                        ((((nI (4 * u)) + (a)).toNatClampNeg) < 48) ∧
                        let m31 := ab_up m 15 (((nI (4 * u)) + (a)).toNatClampNeg) (b)
                        (Dtells 2 u (nI (0)) m31) ∧
                        let z33 := Ftells 2 u (nI (0)) m31
                        True))) ∧
                  (¬ ((k) = (nI (5))) →
                    (¬ (m 14 (((nI (4 * u)) + (a)).toNatClampNeg)) < 0) ∧
                    (((m 14 (((nI (4 * u)) + (a)).toNatClampNeg)).toNatClampNeg) < 16) ∧
                    (Dtells 2 u (m 17 ((m 14 (((nI (4 * u)) + (a)).toNatClampNeg)).toNatClampNeg)) m) ∧
                    let z12 := Ftells 2 u (m 17 ((m 14 (((nI (4 * u)) + (a)).toNatClampNeg)).toNatClampNeg)) m
                    True))))) ∧
          (¬ (0 ≤ (m 14 (((nI (4 * u)) + (a)).toNatClampNeg))) →
            (Dtells 2 u (-8) m) ∧
            let z48 := Ftells 2 u (-8) m
            True)))))
set_option maxRecDepth 100000 in
set_option maxHeartbeats 4000000 in
theorem c_begins {tt : Prop} (u : Nat) (k : Int32) (a : Int32) (b : Int32) (m : mD) (hD : Dbegins u k a b m) : ab_Met mX11_begins 6 0 0 tt [.ref (0), .int (nI (u)), .int (k), .int (a), .int (b)] (sM m) (mQv (Fbegins u k a b m)) := by
  refine ab_Met.of rfl (Nat.le_of_ble_eq_true rfl) ?_
  show mV mX11_begins 6 tt (mQv (Fbegins u k a b m)) 0 [some (.ref (0)), some (.int (nI (u))), some (.int (k)), some (.int (a)), some (.int (b)), none, none, none] [] m
  refine ab_iload_n (pc := 0) dX11_begins_0 rfl rfl ?_
  refine ab_iconst (pc := 1) (v := nI 1) dX11_begins_1 (by decide) ?_
  refine ab_icmp_ne (pc := 2) (tgt := 18) dX11_begins_2 (by decide) (fun c_2 => ?_) (fun c_2 => ?_)
  · replace hD := hD.2 c_2
    refine ab_iload_n (pc := 18) dX11_begins_18 rfl rfl ?_
    refine ab_bipush (pc := 19) (v := nI 6) dX11_begins_19 (by decide) ?_
    refine ab_icmp_ne (pc := 21) (tgt := 36) dX11_begins_21 (by decide) (fun c_21 => ?_) (fun c_21 => ?_)
    · replace hD := hD.2 c_21
      refine ab_iload_n (pc := 36) dX11_begins_36 rfl rfl ?_
      refine ab_if_lt (pc := 37) (tgt := 58) dX11_begins_37 (by decide) (fun c_37 => ?_) (fun c_37 => ?_)
      · replace hD := hD.1 c_37
        refine ab_aload_n (pc := 58) dX11_begins_58 rfl rfl ?_
        refine ab_iconst (pc := 59) (v := nI 2) dX11_begins_59 (by decide) ?_
        refine ab_iload_n (pc := 60) dX11_begins_60 rfl rfl ?_
        refine ab_bipush (pc := 61) (v := -8) dX11_begins_61 (by decide) ?_
        obtain ⟨o1, hD⟩ := hD
        refine mo_invv (N := mX11_tells) (pc := 63) (d' := 4) (av := [_, _, _]) dX11_begins_63 ml_X11_196 fv_X11_tells (Nat.le_of_ble_eq_true rfl) (by decide) (c_tells _ _ _ _ o1) ?_
        refine mo_vr (pc := 66) dX11_begins_66 rfl ?_
        first | (rw [Fbegins]; (try dsimp only); rw [if_neg c_2, if_neg c_21, if_pos c_37]; done) | (rw [Fbegins]; (try dsimp only); rw [if_neg c_2, if_neg c_21, if_pos c_37]; rfl)
      · replace hD := hD.2 c_37
        refine ab_iload_n (pc := 40) dX11_begins_40 rfl rfl ?_
        refine ab_iconst (pc := 41) (v := nI 3) dX11_begins_41 (by decide) ?_
        refine ab_icmp_gt (pc := 42) (tgt := 58) dX11_begins_42 (by decide) (fun c_42 => ?_) (fun c_42 => ?_)
        · replace hD := hD.1 c_42
          refine ab_aload_n (pc := 58) dX11_begins_58 rfl rfl ?_
          refine ab_iconst (pc := 59) (v := nI 2) dX11_begins_59 (by decide) ?_
          refine ab_iload_n (pc := 60) dX11_begins_60 rfl rfl ?_
          refine ab_bipush (pc := 61) (v := -8) dX11_begins_61 (by decide) ?_
          obtain ⟨o3, hD⟩ := hD
          refine mo_invv (N := mX11_tells) (pc := 63) (d' := 4) (av := [_, _, _]) dX11_begins_63 ml_X11_196 fv_X11_tells (Nat.le_of_ble_eq_true rfl) (by decide) (c_tells _ _ _ _ o3) ?_
          refine mo_vr (pc := 66) dX11_begins_66 rfl ?_
          first | (rw [Fbegins]; (try dsimp only); rw [if_neg c_2, if_neg c_21, if_neg c_37, if_pos c_42]; done) | (rw [Fbegins]; (try dsimp only); rw [if_neg c_2, if_neg c_21, if_neg c_37, if_pos c_42]; rfl)
        · replace hD := hD.2 c_42
          refine ab_aload_n (pc := 45) dX11_begins_45 rfl rfl ?_
          refine mo_gr (pc := 46) dX11_begins_46 fl_X11_92 rfl rfl ?_
          refine ab_iconst (pc := 49) (v := nI 4) dX11_begins_49 (by decide) ?_
          refine ab_iload_n (pc := 50) dX11_begins_50 rfl rfl ?_
          refine ab_imulN (pc := 51) dX11_begins_51 ?_
          refine ab_iload_n (pc := 52) dX11_begins_52 rfl rfl ?_
          refine ab_iadd (pc := 53) dX11_begins_53 ?_
          obtain ⟨o5, hD⟩ := hD
          refine ab_nat1 (ab_nat o5) ?_
          obtain ⟨o6, hD⟩ := hD
          refine mo_ild (pc := 54) dX11_begins_54 (by decide) rfl o6 (by decide) ?_
          refine ab_if_ge (pc := 55) (tgt := 67) dX11_begins_55 (by decide) (fun c_55 => ?_) (fun c_55 => ?_)
          · replace hD := hD.1 c_55
            refine ab_iconst (pc := 67) (v := nI 4) dX11_begins_67 (by decide) ?_
            refine ab_iload_n (pc := 68) dX11_begins_68 rfl rfl ?_
            refine ab_imulN (pc := 69) dX11_begins_69 ?_
            refine ab_iload_n (pc := 70) dX11_begins_70 rfl rfl ?_
            refine ab_iadd (pc := 71) dX11_begins_71 ?_
            refine ab_istore (pc := 72) dX11_begins_72 (Nat.le_of_ble_eq_true rfl) rfl ?_
            refine ab_aload_n (pc := 74) dX11_begins_74 rfl rfl ?_
            refine mo_gr (pc := 75) dX11_begins_75 fl_X11_92 rfl rfl ?_
            refine ab_iload (pc := 78) dX11_begins_78 rfl ?_
            obtain ⟨o7, hD⟩ := hD
            refine ab_nat1 (ab_nat o7) ?_
            obtain ⟨o8, hD⟩ := hD
            refine mo_ild (pc := 80) dX11_begins_80 (by decide) rfl o8 (by decide) ?_
            refine ab_istore (pc := 81) dX11_begins_81 (Nat.le_of_ble_eq_true rfl) rfl ?_
            refine ab_iload_n (pc := 83) dX11_begins_83 rfl rfl ?_
            refine ab_iconst (pc := 84) (v := nI 2) dX11_begins_84 (by decide) ?_
            refine ab_icmp_ne (pc := 85) (tgt := 106) dX11_begins_85 (by decide) (fun c_85 => ?_) (fun c_85 => ?_)
            · replace hD := hD.2 c_85
              refine ab_iload_n (pc := 106) dX11_begins_106 rfl rfl ?_
              refine ab_iconst (pc := 107) (v := nI 3) dX11_begins_107 (by decide) ?_
              refine ab_icmp_ne (pc := 108) (tgt := 123) dX11_begins_108 (by decide) (fun c_108 => ?_) (fun c_108 => ?_)
              · replace hD := hD.2 c_108
                refine ab_iload_n (pc := 123) dX11_begins_123 rfl rfl ?_
                refine ab_iconst (pc := 124) (v := nI 4) dX11_begins_124 (by decide) ?_
                refine ab_icmp_ne (pc := 125) (tgt := 142) dX11_begins_125 (by decide) (fun c_125 => ?_) (fun c_125 => ?_)
                · replace hD := hD.2 c_125
                  refine ab_iload_n (pc := 142) dX11_begins_142 rfl rfl ?_
                  refine ab_iconst (pc := 143) (v := nI 5) dX11_begins_143 (by decide) ?_
                  refine ab_icmp_ne (pc := 144) (tgt := 214) dX11_begins_144 (by decide) (fun c_144 => ?_) (fun c_144 => ?_)
                  · replace hD := hD.2 c_144
                    refine ab_aload_n (pc := 214) dX11_begins_214 rfl rfl ?_
                    refine ab_iconst (pc := 215) (v := nI 2) dX11_begins_215 (by decide) ?_
                    refine ab_iload_n (pc := 216) dX11_begins_216 rfl rfl ?_
                    refine ab_aload_n (pc := 217) dX11_begins_217 rfl rfl ?_
                    refine mo_gr (pc := 218) dX11_begins_218 fl_X11_101 rfl rfl ?_
                    refine ab_iload (pc := 221) dX11_begins_221 rfl ?_
                    obtain ⟨o9, hD⟩ := hD
                    refine ab_nat1 (ab_nat o9) ?_
                    obtain ⟨o10, hD⟩ := hD
                    refine mo_ild (pc := 223) dX11_begins_223 (by decide) rfl o10 (by decide) ?_
                    obtain ⟨o11, hD⟩ := hD
                    refine mo_invv (N := mX11_tells) (pc := 224) (d' := 4) (av := [_, _, _]) dX11_begins_224 ml_X11_196 fv_X11_tells (Nat.le_of_ble_eq_true rfl) (by decide) (c_tells _ _ _ _ o11) ?_
                    refine mo_vr (pc := 227) dX11_begins_227 rfl ?_
                    first | (rw [Fbegins]; (try dsimp only); rw [if_neg c_2, if_neg c_21, if_neg c_37, if_neg c_42, if_pos c_55, if_neg c_85, if_neg c_108, if_neg c_125, if_neg c_144]; done) | (rw [Fbegins]; (try dsimp only); rw [if_neg c_2, if_neg c_21, if_neg c_37, if_neg c_42, if_pos c_55, if_neg c_85, if_neg c_108, if_neg c_125, if_neg c_144]; rfl)
                  · replace hD := hD.1 c_144
                    refine ab_iload (pc := 147) dX11_begins_147 rfl ?_
                    refine ab_if_lt (pc := 149) (tgt := 168) dX11_begins_149 (by decide) (fun c_149 => ?_) (fun c_149 => ?_)
                    · replace hD := hD.1 c_149
                      refine ab_iconst (pc := 168) (v := nI 0) dX11_begins_168 (by decide) ?_
                      refine ab_istore (pc := 169) dX11_begins_169 (Nat.le_of_ble_eq_true rfl) rfl ?_
                      refine ab_aload_n (pc := 171) dX11_begins_171 rfl rfl ?_
                      refine mo_gr (pc := 172) dX11_begins_172 fl_X11_95 rfl rfl ?_
                      refine ab_iload (pc := 175) dX11_begins_175 rfl ?_
                      refine ab_iload (pc := 177) dX11_begins_177 rfl ?_
                      refine ab_if_eqN (pc := 179) (tgt := 187) dX11_begins_179 (by decide) (by decide) (fun c_179 => ?_) (fun c_179 => ?_)
                      · refine ab_aload_n (pc := 187) dX11_begins_187 rfl rfl ?_
                        refine mo_gr (pc := 188) dX11_begins_188 fl_X11_95 rfl rfl ?_
                        refine ab_iload (pc := 191) dX11_begins_191 rfl ?_
                        obtain ⟨o13, hD⟩ := hD
                        refine ab_nat1 (ab_nat o13) ?_
                        obtain ⟨o14, hD⟩ := hD
                        refine mo_ild (pc := 193) dX11_begins_193 (by decide) rfl o14 (by decide) ?_
                        obtain ⟨o15, hD⟩ := hD
                        refine ab_nat3 (ab_nat o15) ?_
                        obtain ⟨o16, hD⟩ := hD
                        refine mo_ist (pc := 194) dX11_begins_194 (by decide) rfl o16 (by decide) ?_
                        refine ab_aload_n (pc := 195) dX11_begins_195 rfl rfl ?_
                        refine ab_iconst (pc := 196) (v := nI 2) dX11_begins_196 (by decide) ?_
                        refine ab_iload_n (pc := 197) dX11_begins_197 rfl rfl ?_
                        refine ab_iload (pc := 198) dX11_begins_198 rfl ?_
                        refine ab_if_eqN (pc := 200) (tgt := 207) dX11_begins_200 (by decide) (by decide) (fun c_200 => ?_) (fun c_200 => ?_)
                        · refine ab_iconst (pc := 207) (v := -1) dX11_begins_207 (by decide) ?_
                          obtain ⟨o18, hD⟩ := hD
                          refine mo_invv (N := mX11_tells) (pc := 208) (d' := 4) (av := [_, _, _]) dX11_begins_208 ml_X11_196 fv_X11_tells (Nat.le_of_ble_eq_true rfl) (by decide) (c_tells _ _ _ _ o18) ?_
                          refine ab_goto (pc := 211) (tgt := 227) dX11_begins_211 (by decide) ?_
                          refine mo_vr (pc := 227) dX11_begins_227 rfl ?_
                          first | (rw [Fbegins]; (try dsimp only); rw [if_neg c_2, if_neg c_21, if_neg c_37, if_neg c_42, if_pos c_55, if_neg c_85, if_neg c_108, if_neg c_125, if_pos c_144, if_pos c_149]; done) | (rw [Fbegins]; (try dsimp only); rw [if_neg c_2, if_neg c_21, if_neg c_37, if_neg c_42, if_pos c_55, if_neg c_85, if_neg c_108, if_neg c_125, if_pos c_144, if_pos c_149]; rfl)
                        · exact absurd (by decide) c_200
                      · exact absurd (by decide) c_179
                    · replace hD := hD.2 c_149
                      refine ab_iload (pc := 152) dX11_begins_152 rfl ?_
                      refine ab_aload_n (pc := 154) dX11_begins_154 rfl rfl ?_
                      refine mo_gr (pc := 155) dX11_begins_155 fl_X11_101 rfl rfl ?_
                      refine ab_iload (pc := 158) dX11_begins_158 rfl ?_
                      obtain ⟨o20, hD⟩ := hD
                      refine ab_nat1 (ab_nat o20) ?_
                      obtain ⟨o21, hD⟩ := hD
                      refine mo_ild (pc := 160) dX11_begins_160 (by decide) rfl o21 (by decide) ?_
                      refine ab_icmp_gt (pc := 161) (tgt := 168) dX11_begins_161 (by decide) (fun c_161 => ?_) (fun c_161 => ?_)
                      · replace hD := hD.1 c_161
                        refine ab_iconst (pc := 168) (v := nI 0) dX11_begins_168 (by decide) ?_
                        refine ab_istore (pc := 169) dX11_begins_169 (Nat.le_of_ble_eq_true rfl) rfl ?_
                        refine ab_aload_n (pc := 171) dX11_begins_171 rfl rfl ?_
                        refine mo_gr (pc := 172) dX11_begins_172 fl_X11_95 rfl rfl ?_
                        refine ab_iload (pc := 175) dX11_begins_175 rfl ?_
                        refine ab_iload (pc := 177) dX11_begins_177 rfl ?_
                        refine ab_if_eqN (pc := 179) (tgt := 187) dX11_begins_179 (by decide) (by decide) (fun c_179 => ?_) (fun c_179 => ?_)
                        · refine ab_aload_n (pc := 187) dX11_begins_187 rfl rfl ?_
                          refine mo_gr (pc := 188) dX11_begins_188 fl_X11_95 rfl rfl ?_
                          refine ab_iload (pc := 191) dX11_begins_191 rfl ?_
                          obtain ⟨o22, hD⟩ := hD
                          refine ab_nat1 (ab_nat o22) ?_
                          obtain ⟨o23, hD⟩ := hD
                          refine mo_ild (pc := 193) dX11_begins_193 (by decide) rfl o23 (by decide) ?_
                          obtain ⟨o24, hD⟩ := hD
                          refine ab_nat3 (ab_nat o24) ?_
                          obtain ⟨o25, hD⟩ := hD
                          refine mo_ist (pc := 194) dX11_begins_194 (by decide) rfl o25 (by decide) ?_
                          refine ab_aload_n (pc := 195) dX11_begins_195 rfl rfl ?_
                          refine ab_iconst (pc := 196) (v := nI 2) dX11_begins_196 (by decide) ?_
                          refine ab_iload_n (pc := 197) dX11_begins_197 rfl rfl ?_
                          refine ab_iload (pc := 198) dX11_begins_198 rfl ?_
                          refine ab_if_eqN (pc := 200) (tgt := 207) dX11_begins_200 (by decide) (by decide) (fun c_200 => ?_) (fun c_200 => ?_)
                          · refine ab_iconst (pc := 207) (v := -1) dX11_begins_207 (by decide) ?_
                            obtain ⟨o27, hD⟩ := hD
                            refine mo_invv (N := mX11_tells) (pc := 208) (d' := 4) (av := [_, _, _]) dX11_begins_208 ml_X11_196 fv_X11_tells (Nat.le_of_ble_eq_true rfl) (by decide) (c_tells _ _ _ _ o27) ?_
                            refine ab_goto (pc := 211) (tgt := 227) dX11_begins_211 (by decide) ?_
                            refine mo_vr (pc := 227) dX11_begins_227 rfl ?_
                            first | (rw [Fbegins]; (try dsimp only); rw [if_neg c_2, if_neg c_21, if_neg c_37, if_neg c_42, if_pos c_55, if_neg c_85, if_neg c_108, if_neg c_125, if_pos c_144, if_neg c_149, if_pos c_161]; done) | (rw [Fbegins]; (try dsimp only); rw [if_neg c_2, if_neg c_21, if_neg c_37, if_neg c_42, if_pos c_55, if_neg c_85, if_neg c_108, if_neg c_125, if_pos c_144, if_neg c_149, if_pos c_161]; rfl)
                          · exact absurd (by decide) c_200
                        · exact absurd (by decide) c_179
                      · replace hD := hD.2 c_161
                        refine ab_iconst (pc := 164) (v := nI 1) dX11_begins_164 (by decide) ?_
                        refine ab_goto (pc := 165) (tgt := 169) dX11_begins_165 (by decide) ?_
                        refine ab_istore (pc := 169) dX11_begins_169 (Nat.le_of_ble_eq_true rfl) rfl ?_
                        refine ab_aload_n (pc := 171) dX11_begins_171 rfl rfl ?_
                        refine mo_gr (pc := 172) dX11_begins_172 fl_X11_95 rfl rfl ?_
                        refine ab_iload (pc := 175) dX11_begins_175 rfl ?_
                        refine ab_iload (pc := 177) dX11_begins_177 rfl ?_
                        refine ab_if_eqN (pc := 179) (tgt := 187) dX11_begins_179 (by decide) (by decide) (fun c_179 => ?_) (fun c_179 => ?_)
                        · exact absurd c_179 (by decide)
                        · refine ab_iload (pc := 182) dX11_begins_182 rfl ?_
                          refine ab_goto (pc := 184) (tgt := 194) dX11_begins_184 (by decide) ?_
                          obtain ⟨o29, hD⟩ := hD
                          refine ab_nat3 (ab_nat o29) ?_
                          obtain ⟨o30, hD⟩ := hD
                          refine mo_ist (pc := 194) dX11_begins_194 (by decide) rfl o30 (by decide) ?_
                          refine ab_aload_n (pc := 195) dX11_begins_195 rfl rfl ?_
                          refine ab_iconst (pc := 196) (v := nI 2) dX11_begins_196 (by decide) ?_
                          refine ab_iload_n (pc := 197) dX11_begins_197 rfl rfl ?_
                          refine ab_iload (pc := 198) dX11_begins_198 rfl ?_
                          refine ab_if_eqN (pc := 200) (tgt := 207) dX11_begins_200 (by decide) (by decide) (fun c_200 => ?_) (fun c_200 => ?_)
                          · exact absurd c_200 (by decide)
                          · refine ab_iconst (pc := 203) (v := nI 0) dX11_begins_203 (by decide) ?_
                            refine ab_goto (pc := 204) (tgt := 208) dX11_begins_204 (by decide) ?_
                            obtain ⟨o32, hD⟩ := hD
                            refine mo_invv (N := mX11_tells) (pc := 208) (d' := 4) (av := [_, _, _]) dX11_begins_208 ml_X11_196 fv_X11_tells (Nat.le_of_ble_eq_true rfl) (by decide) (c_tells _ _ _ _ o32) ?_
                            refine ab_goto (pc := 211) (tgt := 227) dX11_begins_211 (by decide) ?_
                            refine mo_vr (pc := 227) dX11_begins_227 rfl ?_
                            first | (rw [Fbegins]; (try dsimp only); rw [if_neg c_2, if_neg c_21, if_neg c_37, if_neg c_42, if_pos c_55, if_neg c_85, if_neg c_108, if_neg c_125, if_pos c_144, if_neg c_149, if_neg c_161]; done) | (rw [Fbegins]; (try dsimp only); rw [if_neg c_2, if_neg c_21, if_neg c_37, if_neg c_42, if_pos c_55, if_neg c_85, if_neg c_108, if_neg c_125, if_pos c_144, if_neg c_149, if_neg c_161]; rfl)
                · replace hD := hD.1 c_125
                  refine ab_aload_n (pc := 128) dX11_begins_128 rfl rfl ?_
                  refine ab_iload_n (pc := 129) dX11_begins_129 rfl rfl ?_
                  refine ab_iload (pc := 130) dX11_begins_130 rfl ?_
                  refine ab_iload (pc := 132) dX11_begins_132 rfl ?_
                  refine ab_iload (pc := 134) dX11_begins_134 rfl ?_
                  obtain ⟨o34, hD⟩ := hD
                  obtain ⟨o35, hD⟩ := hD
                  refine ab_stk4 rfl (congrArg Value.int (ab_nat o35)) (congrArg Value.int (ab_nat o34)) rfl ?_
                  obtain ⟨o36, hD⟩ := hD
                  refine mo_invv (N := mX11_writes) (pc := 136) (d' := 5) (av := [_, _, _, _]) dX11_begins_136 ml_X11_206 fv_X11_writes (Nat.le_of_ble_eq_true rfl) (by decide) (c_writes _ _ _ _ _ o36) ?_
                  refine ab_goto (pc := 139) (tgt := 227) dX11_begins_139 (by decide) ?_
                  refine mo_vr (pc := 227) dX11_begins_227 rfl ?_
                  first | (rw [Fbegins]; (try dsimp only); rw [if_neg c_2, if_neg c_21, if_neg c_37, if_neg c_42, if_pos c_55, if_neg c_85, if_neg c_108, if_pos c_125]; done) | (rw [Fbegins]; (try dsimp only); rw [if_neg c_2, if_neg c_21, if_neg c_37, if_neg c_42, if_pos c_55, if_neg c_85, if_neg c_108, if_pos c_125]; rfl)
              · replace hD := hD.1 c_108
                refine ab_aload_n (pc := 111) dX11_begins_111 rfl rfl ?_
                refine ab_iload_n (pc := 112) dX11_begins_112 rfl rfl ?_
                refine ab_iload (pc := 113) dX11_begins_113 rfl ?_
                refine ab_iload (pc := 115) dX11_begins_115 rfl ?_
                obtain ⟨o38, hD⟩ := hD
                obtain ⟨o39, hD⟩ := hD
                refine ab_stk3 (congrArg Value.int (ab_nat o39)) (congrArg Value.int (ab_nat o38)) rfl ?_
                obtain ⟨o40, hD⟩ := hD
                refine mo_invv (N := mX11_reads) (pc := 117) (d' := 5) (av := [_, _, _]) dX11_begins_117 ml_X11_203 fv_X11_reads (Nat.le_of_ble_eq_true rfl) (by decide) (c_reads _ _ _ _ o40) ?_
                refine ab_goto (pc := 120) (tgt := 227) dX11_begins_120 (by decide) ?_
                refine mo_vr (pc := 227) dX11_begins_227 rfl ?_
                first | (rw [Fbegins]; (try dsimp only); rw [if_neg c_2, if_neg c_21, if_neg c_37, if_neg c_42, if_pos c_55, if_neg c_85, if_pos c_108]; done) | (rw [Fbegins]; (try dsimp only); rw [if_neg c_2, if_neg c_21, if_neg c_37, if_neg c_42, if_pos c_55, if_neg c_85, if_pos c_108]; rfl)
            · replace hD := hD.1 c_85
              refine ab_aload_n (pc := 88) dX11_begins_88 rfl rfl ?_
              refine mo_gr (pc := 89) dX11_begins_89 fl_X11_92 rfl rfl ?_
              refine ab_iload (pc := 92) dX11_begins_92 rfl ?_
              refine ab_iconst (pc := 94) (v := -1) dX11_begins_94 (by decide) ?_
              obtain ⟨o42, hD⟩ := hD
              refine ab_nat3 (ab_nat o42) ?_
              obtain ⟨o43, hD⟩ := hD
              refine mo_ist (pc := 95) dX11_begins_95 (by decide) rfl o43 (by decide) ?_
              refine ab_aload_n (pc := 96) dX11_begins_96 rfl rfl ?_
              refine ab_iconst (pc := 97) (v := nI 2) dX11_begins_97 (by decide) ?_
              refine ab_iload_n (pc := 98) dX11_begins_98 rfl rfl ?_
              refine ab_iconst (pc := 99) (v := nI 0) dX11_begins_99 (by decide) ?_
              obtain ⟨o45, hD⟩ := hD
              refine mo_invv (N := mX11_tells) (pc := 100) (d' := 4) (av := [_, _, _]) dX11_begins_100 ml_X11_196 fv_X11_tells (Nat.le_of_ble_eq_true rfl) (by decide) (c_tells _ _ _ _ o45) ?_
              refine ab_goto (pc := 103) (tgt := 227) dX11_begins_103 (by decide) ?_
              refine mo_vr (pc := 227) dX11_begins_227 rfl ?_
              first | (rw [Fbegins]; (try dsimp only); rw [if_neg c_2, if_neg c_21, if_neg c_37, if_neg c_42, if_pos c_55, if_pos c_85]; done) | (rw [Fbegins]; (try dsimp only); rw [if_neg c_2, if_neg c_21, if_neg c_37, if_neg c_42, if_pos c_55, if_pos c_85]; rfl)
          · replace hD := hD.2 c_55
            refine ab_aload_n (pc := 58) dX11_begins_58 rfl rfl ?_
            refine ab_iconst (pc := 59) (v := nI 2) dX11_begins_59 (by decide) ?_
            refine ab_iload_n (pc := 60) dX11_begins_60 rfl rfl ?_
            refine ab_bipush (pc := 61) (v := -8) dX11_begins_61 (by decide) ?_
            obtain ⟨o47, hD⟩ := hD
            refine mo_invv (N := mX11_tells) (pc := 63) (d' := 4) (av := [_, _, _]) dX11_begins_63 ml_X11_196 fv_X11_tells (Nat.le_of_ble_eq_true rfl) (by decide) (c_tells _ _ _ _ o47) ?_
            refine mo_vr (pc := 66) dX11_begins_66 rfl ?_
            first | (rw [Fbegins]; (try dsimp only); rw [if_neg c_2, if_neg c_21, if_neg c_37, if_neg c_42, if_neg c_55]; done) | (rw [Fbegins]; (try dsimp only); rw [if_neg c_2, if_neg c_21, if_neg c_37, if_neg c_42, if_neg c_55]; rfl)
    · replace hD := hD.1 c_21
      refine ab_aload_n (pc := 24) dX11_begins_24 rfl rfl ?_
      refine ab_iconst (pc := 25) (v := nI 2) dX11_begins_25 (by decide) ?_
      refine ab_iload_n (pc := 26) dX11_begins_26 rfl rfl ?_
      refine ab_aload_n (pc := 27) dX11_begins_27 rfl rfl ?_
      refine ab_iload_n (pc := 28) dX11_begins_28 rfl rfl ?_
      obtain ⟨o49, hD⟩ := hD
      refine mo_invi (N := mX11_removes) (pc := 29) (d' := 0) (av := [_]) dX11_begins_29 ml_X11_199 fv_X11_removes (Nat.le_of_ble_eq_true rfl) (by decide) (c_removes _ _ o49) ?_
      obtain ⟨o51, hD⟩ := hD
      refine mo_invv (N := mX11_tells) (pc := 32) (d' := 4) (av := [_, _, _]) dX11_begins_32 ml_X11_196 fv_X11_tells (Nat.le_of_ble_eq_true rfl) (by decide) (c_tells _ _ _ _ o51) ?_
      refine mo_vr (pc := 35) dX11_begins_35 rfl ?_
      first | (rw [Fbegins]; (try dsimp only); rw [if_neg c_2, if_pos c_21]; done) | (rw [Fbegins]; (try dsimp only); rw [if_neg c_2, if_pos c_21]; rfl)
  · replace hD := hD.1 c_2
    refine ab_aload_n (pc := 5) dX11_begins_5 rfl rfl ?_
    refine ab_iconst (pc := 6) (v := nI 2) dX11_begins_6 (by decide) ?_
    refine ab_iload_n (pc := 7) dX11_begins_7 rfl rfl ?_
    refine ab_aload_n (pc := 8) dX11_begins_8 rfl rfl ?_
    refine ab_iload_n (pc := 9) dX11_begins_9 rfl rfl ?_
    refine ab_iload_n (pc := 10) dX11_begins_10 rfl rfl ?_
    obtain ⟨o53, hD⟩ := hD
    refine mo_invi (N := mX11_opens) (pc := 11) (d' := 1) (av := [_, _]) dX11_begins_11 ml_X11_192 fv_X11_opens (Nat.le_of_ble_eq_true rfl) (by decide) (c_opens _ _ _ o53) ?_
    obtain ⟨o55, hD⟩ := hD
    refine mo_invv (N := mX11_tells) (pc := 14) (d' := 4) (av := [_, _, _]) dX11_begins_14 ml_X11_196 fv_X11_tells (Nat.le_of_ble_eq_true rfl) (by decide) (c_tells _ _ _ _ o55) ?_
    refine mo_vr (pc := 17) dX11_begins_17 rfl ?_
    first | (rw [Fbegins]; (try dsimp only); rw [if_pos c_2]; done) | (rw [Fbegins]; (try dsimp only); rw [if_pos c_2]; rfl)
def Ffiles_11 : Nat → Nat → mD → mD
  | 0, _, m => m
  | n + 1, a1, m =>
    if (m 0 35) = 0 then
      if a1 = ((m 2 2).toNatClampNeg) then
        m
      else
        let z7 := FtakeOut 2 a1 m
        if (z7 6 1) = 0 then
          z7
        else if (z7 6 1) = 22 then
          if (z7 0 35) = 0 then
            z7
          else
            let z9 := FgoesOn  z7
            z9
        else if (z7 6 1) = 30 then
          let z13 := Fcopies ((z7 6 2).toNatClampNeg) ((z7 6 3).toNatClampNeg) z7
          let z15 := Fdrafts (nI (32)) (nI (0)) (nI (0)) z13
          let z17 := Fsends 2 3 z15
          z17
        else if (z7 6 1) = 31 then
          let z20 := FclosesAll ((z7 6 2).toNatClampNeg) z7
          let z22 := Fdrafts (nI (32)) (nI (0)) (nI (0)) z20
          let z24 := Fsends 2 3 z22
          z24
        else if (z7 6 1) = 42 then
          let m25 := ab_up z7 0 34 (z7 6 2)
          if (m25 0 35) = 0 then
            m25
          else
            let z27 := FasksDriver  m25
            z27
        else
          let z30 := Fbegins ((z7 6 0).toNatClampNeg) (z7 6 1) (z7 6 2) (z7 6 3) z7
          z30
    else
      if ((m 2 2).toNatClampNeg) ≤ a1 then
        if a1 = ((m 2 2).toNatClampNeg) then
          m
        else
          let z38 := FtakeOut 2 a1 m
          if (z38 6 1) = 0 then
            z38
          else if (z38 6 1) = 22 then
            if (z38 0 35) = 0 then
              z38
            else
              let z40 := FgoesOn  z38
              z40
          else if (z38 6 1) = 30 then
            let z44 := Fcopies ((z38 6 2).toNatClampNeg) ((z38 6 3).toNatClampNeg) z38
            let z46 := Fdrafts (nI (32)) (nI (0)) (nI (0)) z44
            let z48 := Fsends 2 3 z46
            z48
          else if (z38 6 1) = 31 then
            let z51 := FclosesAll ((z38 6 2).toNatClampNeg) z38
            let z53 := Fdrafts (nI (32)) (nI (0)) (nI (0)) z51
            let z55 := Fsends 2 3 z53
            z55
          else if (z38 6 1) = 42 then
            let m56 := ab_up z38 0 34 (z38 6 2)
            if (m56 0 35) = 0 then
              m56
            else
              let z58 := FasksDriver  m56
              z58
          else
            let z61 := Fbegins ((z38 6 0).toNatClampNeg) (z38 6 1) (z38 6 2) (z38 6 3) z38
            z61
      else
        if (Ffield 2 a1 0 m) ≤ (nI (1)) then
          if a1 = ((m 2 2).toNatClampNeg) then
            m
          else
            let z67 := FtakeOut 2 a1 m
            if (z67 6 1) = 0 then
              z67
            else if (z67 6 1) = 22 then
              if (z67 0 35) = 0 then
                z67
              else
                let z69 := FgoesOn  z67
                z69
            else if (z67 6 1) = 30 then
              let z73 := Fcopies ((z67 6 2).toNatClampNeg) ((z67 6 3).toNatClampNeg) z67
              let z75 := Fdrafts (nI (32)) (nI (0)) (nI (0)) z73
              let z77 := Fsends 2 3 z75
              z77
            else if (z67 6 1) = 31 then
              let z80 := FclosesAll ((z67 6 2).toNatClampNeg) z67
              let z82 := Fdrafts (nI (32)) (nI (0)) (nI (0)) z80
              let z84 := Fsends 2 3 z82
              z84
            else if (z67 6 1) = 42 then
              let m85 := ab_up z67 0 34 (z67 6 2)
              if (m85 0 35) = 0 then
                m85
              else
                let z87 := FasksDriver  m85
                z87
            else
              let z90 := Fbegins ((z67 6 0).toNatClampNeg) (z67 6 1) (z67 6 2) (z67 6 3) z67
              z90
        else
          if (Ffield 2 a1 1 m) = 0 then
            if a1 = ((m 2 2).toNatClampNeg) then
              m
            else
              let z96 := FtakeOut 2 a1 m
              if (z96 6 1) = 0 then
                z96
              else if (z96 6 1) = 22 then
                if (z96 0 35) = 0 then
                  z96
                else
                  let z98 := FgoesOn  z96
                  z98
              else if (z96 6 1) = 30 then
                let z102 := Fcopies ((z96 6 2).toNatClampNeg) ((z96 6 3).toNatClampNeg) z96
                let z104 := Fdrafts (nI (32)) (nI (0)) (nI (0)) z102
                let z106 := Fsends 2 3 z104
                z106
              else if (z96 6 1) = 31 then
                let z109 := FclosesAll ((z96 6 2).toNatClampNeg) z96
                let z111 := Fdrafts (nI (32)) (nI (0)) (nI (0)) z109
                let z113 := Fsends 2 3 z111
                z113
              else if (z96 6 1) = 42 then
                let m114 := ab_up z96 0 34 (z96 6 2)
                if (m114 0 35) = 0 then
                  m114
                else
                  let z116 := FasksDriver  m114
                  z116
              else
                let z119 := Fbegins ((z96 6 0).toNatClampNeg) (z96 6 1) (z96 6 2) (z96 6 3) z96
                z119
          else
            Ffiles_11 n (a1 + 1) m
def Dfiles_11 : Nat → Nat → mD → Prop
  | 0, _, _ => False
  | n + 1, a1, m =>
    (((m 0 35) = 0) →
      (¬ (m 2 2) < 0) ∧
      (a1 < 2147483648) ∧
      (((m 2 2).toNatClampNeg) < 2147483648) ∧
      ((a1 = ((m 2 2).toNatClampNeg)) →
        True) ∧
      (¬ (a1 = ((m 2 2).toNatClampNeg)) →
        (DtakeOut 2 a1 m) ∧
        let z7 := FtakeOut 2 a1 m
        ((z7 6 1) = 0 →
          True) ∧
        ((z7 6 1) = 22 →
          (((z7 0 35) = 0) →
            True) ∧
          (¬ ((z7 0 35) = 0) →
            (DgoesOn  z7) ∧
            let z9 := FgoesOn  z7
            True)) ∧
        ((z7 6 1) = 30 →
          (¬ (z7 6 2) < 0) ∧
          (¬ (z7 6 3) < 0) ∧
          (Dcopies ((z7 6 2).toNatClampNeg) ((z7 6 3).toNatClampNeg) z7) ∧
          let z13 := Fcopies ((z7 6 2).toNatClampNeg) ((z7 6 3).toNatClampNeg) z7
          (Ddrafts (nI (32)) (nI (0)) (nI (0)) z13) ∧
          let z15 := Fdrafts (nI (32)) (nI (0)) (nI (0)) z13
          (Dsends 2 3 z15) ∧
          let z17 := Fsends 2 3 z15
          True) ∧
        ((z7 6 1) = 31 →
          (¬ (z7 6 2) < 0) ∧
          (DclosesAll ((z7 6 2).toNatClampNeg) z7) ∧
          let z20 := FclosesAll ((z7 6 2).toNatClampNeg) z7
          (Ddrafts (nI (32)) (nI (0)) (nI (0)) z20) ∧
          let z22 := Fdrafts (nI (32)) (nI (0)) (nI (0)) z20
          (Dsends 2 3 z22) ∧
          let z24 := Fsends 2 3 z22
          True) ∧
        ((z7 6 1) = 42 →
          let m25 := ab_up z7 0 34 (z7 6 2)
          (((m25 0 35) = 0) →
            True) ∧
          (¬ ((m25 0 35) = 0) →
            (DasksDriver  m25) ∧
            let z27 := FasksDriver  m25
            True)) ∧
        ((∀ c ∈ ([(0, 136), (22, 137), (30, 171), (31, 202), (42, 149)] : List (Int32 × Nat)), ¬ (z7 6 1) = c.1) →
          (¬ (z7 6 0) < 0) ∧
          (Dbegins ((z7 6 0).toNatClampNeg) (z7 6 1) (z7 6 2) (z7 6 3) z7) ∧
          let z30 := Fbegins ((z7 6 0).toNatClampNeg) (z7 6 1) (z7 6 2) (z7 6 3) z7
          True))) ∧
    (¬ ((m 0 35) = 0) →
      (¬ (m 2 2) < 0) ∧
      (a1 < 2147483648) ∧
      (((m 2 2).toNatClampNeg) < 2147483648) ∧
      ((((m 2 2).toNatClampNeg) ≤ a1) →
        (¬ (m 2 2) < 0) ∧
        (a1 < 2147483648) ∧
        (((m 2 2).toNatClampNeg) < 2147483648) ∧
        ((a1 = ((m 2 2).toNatClampNeg)) →
          True) ∧
        (¬ (a1 = ((m 2 2).toNatClampNeg)) →
          (DtakeOut 2 a1 m) ∧
          let z38 := FtakeOut 2 a1 m
          ((z38 6 1) = 0 →
            True) ∧
          ((z38 6 1) = 22 →
            (((z38 0 35) = 0) →
              True) ∧
            (¬ ((z38 0 35) = 0) →
              (DgoesOn  z38) ∧
              let z40 := FgoesOn  z38
              True)) ∧
          ((z38 6 1) = 30 →
            (¬ (z38 6 2) < 0) ∧
            (¬ (z38 6 3) < 0) ∧
            (Dcopies ((z38 6 2).toNatClampNeg) ((z38 6 3).toNatClampNeg) z38) ∧
            let z44 := Fcopies ((z38 6 2).toNatClampNeg) ((z38 6 3).toNatClampNeg) z38
            (Ddrafts (nI (32)) (nI (0)) (nI (0)) z44) ∧
            let z46 := Fdrafts (nI (32)) (nI (0)) (nI (0)) z44
            (Dsends 2 3 z46) ∧
            let z48 := Fsends 2 3 z46
            True) ∧
          ((z38 6 1) = 31 →
            (¬ (z38 6 2) < 0) ∧
            (DclosesAll ((z38 6 2).toNatClampNeg) z38) ∧
            let z51 := FclosesAll ((z38 6 2).toNatClampNeg) z38
            (Ddrafts (nI (32)) (nI (0)) (nI (0)) z51) ∧
            let z53 := Fdrafts (nI (32)) (nI (0)) (nI (0)) z51
            (Dsends 2 3 z53) ∧
            let z55 := Fsends 2 3 z53
            True) ∧
          ((z38 6 1) = 42 →
            let m56 := ab_up z38 0 34 (z38 6 2)
            (((m56 0 35) = 0) →
              True) ∧
            (¬ ((m56 0 35) = 0) →
              (DasksDriver  m56) ∧
              let z58 := FasksDriver  m56
              True)) ∧
          ((∀ c ∈ ([(0, 136), (22, 137), (30, 171), (31, 202), (42, 149)] : List (Int32 × Nat)), ¬ (z38 6 1) = c.1) →
            (¬ (z38 6 0) < 0) ∧
            (Dbegins ((z38 6 0).toNatClampNeg) (z38 6 1) (z38 6 2) (z38 6 3) z38) ∧
            let z61 := Fbegins ((z38 6 0).toNatClampNeg) (z38 6 1) (z38 6 2) (z38 6 3) z38
            True))) ∧
      (¬ (((m 2 2).toNatClampNeg) ≤ a1) →
        (Dfield 2 a1 0 m) ∧
        (((Ffield 2 a1 0 m) ≤ (nI (1))) →
          (¬ (m 2 2) < 0) ∧
          (a1 < 2147483648) ∧
          (((m 2 2).toNatClampNeg) < 2147483648) ∧
          ((a1 = ((m 2 2).toNatClampNeg)) →
            True) ∧
          (¬ (a1 = ((m 2 2).toNatClampNeg)) →
            (DtakeOut 2 a1 m) ∧
            let z67 := FtakeOut 2 a1 m
            ((z67 6 1) = 0 →
              True) ∧
            ((z67 6 1) = 22 →
              (((z67 0 35) = 0) →
                True) ∧
              (¬ ((z67 0 35) = 0) →
                (DgoesOn  z67) ∧
                let z69 := FgoesOn  z67
                True)) ∧
            ((z67 6 1) = 30 →
              (¬ (z67 6 2) < 0) ∧
              (¬ (z67 6 3) < 0) ∧
              (Dcopies ((z67 6 2).toNatClampNeg) ((z67 6 3).toNatClampNeg) z67) ∧
              let z73 := Fcopies ((z67 6 2).toNatClampNeg) ((z67 6 3).toNatClampNeg) z67
              (Ddrafts (nI (32)) (nI (0)) (nI (0)) z73) ∧
              let z75 := Fdrafts (nI (32)) (nI (0)) (nI (0)) z73
              (Dsends 2 3 z75) ∧
              let z77 := Fsends 2 3 z75
              True) ∧
            ((z67 6 1) = 31 →
              (¬ (z67 6 2) < 0) ∧
              (DclosesAll ((z67 6 2).toNatClampNeg) z67) ∧
              let z80 := FclosesAll ((z67 6 2).toNatClampNeg) z67
              (Ddrafts (nI (32)) (nI (0)) (nI (0)) z80) ∧
              let z82 := Fdrafts (nI (32)) (nI (0)) (nI (0)) z80
              (Dsends 2 3 z82) ∧
              let z84 := Fsends 2 3 z82
              True) ∧
            ((z67 6 1) = 42 →
              let m85 := ab_up z67 0 34 (z67 6 2)
              (((m85 0 35) = 0) →
                True) ∧
              (¬ ((m85 0 35) = 0) →
                (DasksDriver  m85) ∧
                let z87 := FasksDriver  m85
                True)) ∧
            ((∀ c ∈ ([(0, 136), (22, 137), (30, 171), (31, 202), (42, 149)] : List (Int32 × Nat)), ¬ (z67 6 1) = c.1) →
              (¬ (z67 6 0) < 0) ∧
              (Dbegins ((z67 6 0).toNatClampNeg) (z67 6 1) (z67 6 2) (z67 6 3) z67) ∧
              let z90 := Fbegins ((z67 6 0).toNatClampNeg) (z67 6 1) (z67 6 2) (z67 6 3) z67
              True))) ∧
        (¬ ((Ffield 2 a1 0 m) ≤ (nI (1))) →
          (Dfield 2 a1 1 m) ∧
          (((Ffield 2 a1 1 m) = 0) →
            (¬ (m 2 2) < 0) ∧
            (a1 < 2147483648) ∧
            (((m 2 2).toNatClampNeg) < 2147483648) ∧
            ((a1 = ((m 2 2).toNatClampNeg)) →
              True) ∧
            (¬ (a1 = ((m 2 2).toNatClampNeg)) →
              (DtakeOut 2 a1 m) ∧
              let z96 := FtakeOut 2 a1 m
              ((z96 6 1) = 0 →
                True) ∧
              ((z96 6 1) = 22 →
                (((z96 0 35) = 0) →
                  True) ∧
                (¬ ((z96 0 35) = 0) →
                  (DgoesOn  z96) ∧
                  let z98 := FgoesOn  z96
                  True)) ∧
              ((z96 6 1) = 30 →
                (¬ (z96 6 2) < 0) ∧
                (¬ (z96 6 3) < 0) ∧
                (Dcopies ((z96 6 2).toNatClampNeg) ((z96 6 3).toNatClampNeg) z96) ∧
                let z102 := Fcopies ((z96 6 2).toNatClampNeg) ((z96 6 3).toNatClampNeg) z96
                (Ddrafts (nI (32)) (nI (0)) (nI (0)) z102) ∧
                let z104 := Fdrafts (nI (32)) (nI (0)) (nI (0)) z102
                (Dsends 2 3 z104) ∧
                let z106 := Fsends 2 3 z104
                True) ∧
              ((z96 6 1) = 31 →
                (¬ (z96 6 2) < 0) ∧
                (DclosesAll ((z96 6 2).toNatClampNeg) z96) ∧
                let z109 := FclosesAll ((z96 6 2).toNatClampNeg) z96
                (Ddrafts (nI (32)) (nI (0)) (nI (0)) z109) ∧
                let z111 := Fdrafts (nI (32)) (nI (0)) (nI (0)) z109
                (Dsends 2 3 z111) ∧
                let z113 := Fsends 2 3 z111
                True) ∧
              ((z96 6 1) = 42 →
                let m114 := ab_up z96 0 34 (z96 6 2)
                (((m114 0 35) = 0) →
                  True) ∧
                (¬ ((m114 0 35) = 0) →
                  (DasksDriver  m114) ∧
                  let z116 := FasksDriver  m114
                  True)) ∧
              ((∀ c ∈ ([(0, 136), (22, 137), (30, 171), (31, 202), (42, 149)] : List (Int32 × Nat)), ¬ (z96 6 1) = c.1) →
                (¬ (z96 6 0) < 0) ∧
                (Dbegins ((z96 6 0).toNatClampNeg) (z96 6 1) (z96 6 2) (z96 6 3) z96) ∧
                let z119 := Fbegins ((z96 6 0).toNatClampNeg) (z96 6 1) (z96 6 2) (z96 6 3) z96
                True))) ∧
          (¬ ((Ffield 2 a1 1 m) = 0) →
            Dfiles_11 n (a1 + 1) m))))
set_option maxRecDepth 100000 in
set_option maxHeartbeats 4000000 in
theorem w_files_11 {tt : Prop} : ∀ (n : Nat) (a1 : Nat) (m : mD) (hD : Dfiles_11 n a1 m), mV mX11_files 7 tt (mQv (Ffiles_11 n a1 m)) 11 [some (.ref (0)), some (.int (nI (a1))), none] [] m := by
  intro n
  induction n with
  | zero => intros; rename_i hD; exact hD.elim
  | succ n ih =>
    intro a1 m hD
    refine ab_aload_n (pc := 11) dX11_files_11 rfl rfl ?_
    refine mo_gi (pc := 12) dX11_files_12 fl_X11_166 rfl ?_
    refine ab_if_eq (pc := 15) (tgt := 55) dX11_files_15 (by decide) (fun c_15 => ?_) (fun c_15 => ?_)
    · replace hD := hD.1 c_15
      refine ab_iload_n (pc := 55) dX11_files_55 rfl rfl ?_
      refine ab_aload_n (pc := 56) dX11_files_56 rfl rfl ?_
      refine mo_gr (pc := 57) dX11_files_57 fl_X11_38 rfl rfl ?_
      refine ab_iconst (pc := 60) (v := nI 2) dX11_files_60 (by decide) ?_
      refine mo_ild (pc := 61) dX11_files_61 (by decide) rfl (by decide) (by decide) ?_
      obtain ⟨o3, hD⟩ := hD
      refine ab_nat1 (ab_nat o3) ?_
      obtain ⟨o4, hD⟩ := hD
      obtain ⟨o5, hD⟩ := hD
      refine ab_icmp_neN (pc := 62) (tgt := 66) dX11_files_62 (by decide) o4 o5 (fun c_62 => ?_) (fun c_62 => ?_)
      · replace hD := hD.2 c_62
        refine ab_aload_n (pc := 66) dX11_files_66 rfl rfl ?_
        refine ab_iconst (pc := 67) (v := nI 2) dX11_files_67 (by decide) ?_
        refine ab_iload_n (pc := 68) dX11_files_68 rfl rfl ?_
        obtain ⟨o6, hD⟩ := hD
        refine mo_invv (N := mX11_takeOut) (pc := 69) (d' := 1) (av := [_, _]) dX11_files_69 ml_X11_143 fv_X11_takeOut (Nat.le_of_ble_eq_true rfl) (by decide) (c_takeOut _ _ _ o6) ?_
        refine ab_aload_n (pc := 72) dX11_files_72 rfl rfl ?_
        refine mo_gr (pc := 73) dX11_files_73 fl_X11_61 rfl rfl ?_
        refine ab_iconst (pc := 76) (v := nI 0) dX11_files_76 (by decide) ?_
        refine mo_ild (pc := 77) dX11_files_77 (by decide) rfl (by decide) (by decide) ?_
        refine ab_istore_n (pc := 78) dX11_files_78 rfl (Nat.le_of_ble_eq_true rfl) rfl ?_
        refine ab_aload_n (pc := 79) dX11_files_79 rfl rfl ?_
        refine mo_gr (pc := 80) dX11_files_80 fl_X11_61 rfl rfl ?_
        refine ab_iconst (pc := 83) (v := nI 1) dX11_files_83 (by decide) ?_
        refine mo_ild (pc := 84) dX11_files_84 (by decide) rfl (by decide) (by decide) ?_
        refine ab_lsw (pc := 85) [(0, 136), (22, 137), (30, 171), (31, 202), (42, 149)] 227 dX11_files_85 (by decide +kernel) (by decide +kernel) (ab_c1 (fun c_85 => ?_) (ab_c1 (fun c_85 => ?_) (ab_c1 (fun c_85 => ?_) (ab_c1 (fun c_85 => ?_) (ab_c1 (fun c_85 => ?_) (ab_c0)))))) (fun c_85 => ?_)
        · refine mo_vr (pc := 136) dX11_files_136 rfl ?_
          first | (rw [Ffiles_11]; (try dsimp only); rw [if_pos c_15, if_neg c_62, if_pos c_85]; done) | (rw [Ffiles_11]; (try dsimp only); rw [if_pos c_15, if_neg c_62, if_pos c_85]; rfl)
        · replace hD := hD.2.1 c_85
          refine ab_aload_n (pc := 137) dX11_files_137 rfl rfl ?_
          refine mo_gi (pc := 138) dX11_files_138 fl_X11_166 rfl ?_
          refine ab_if_eq (pc := 141) (tgt := 148) dX11_files_141 (by decide) (fun c_141 => ?_) (fun c_141 => ?_)
          · refine mo_vr (pc := 148) dX11_files_148 rfl ?_
            first | (rw [Ffiles_11]; (try dsimp only); rw [if_pos c_15, if_neg c_62, if_neg (fun h => absurd (c_85.symm.trans h) (by decide)), if_pos c_85, if_pos c_141]; done) | (rw [Ffiles_11]; (try dsimp only); rw [if_pos c_15, if_neg c_62, if_neg (fun h => absurd (c_85.symm.trans h) (by decide)), if_pos c_85, if_pos c_141]; rfl)
          · replace hD := hD.2 c_141
            refine ab_aload_n (pc := 144) dX11_files_144 rfl rfl ?_
            obtain ⟨o8, hD⟩ := hD
            refine mo_invv (N := mX11_goesOn) (pc := 145) (d' := 5) (av := []) dX11_files_145 ml_X11_169 fv_X11_goesOn (Nat.le_of_ble_eq_true rfl) (by decide) (c_goesOn  _ o8) ?_
            refine mo_vr (pc := 148) dX11_files_148 rfl ?_
            first | (rw [Ffiles_11]; (try dsimp only); rw [if_pos c_15, if_neg c_62, if_neg (fun h => absurd (c_85.symm.trans h) (by decide)), if_pos c_85, if_neg c_141]; done) | (rw [Ffiles_11]; (try dsimp only); rw [if_pos c_15, if_neg c_62, if_neg (fun h => absurd (c_85.symm.trans h) (by decide)), if_pos c_85, if_neg c_141]; rfl)
        · replace hD := hD.2.2.1 c_85
          refine ab_aload_n (pc := 171) dX11_files_171 rfl rfl ?_
          refine ab_aload_n (pc := 172) dX11_files_172 rfl rfl ?_
          refine mo_gr (pc := 173) dX11_files_173 fl_X11_61 rfl rfl ?_
          refine ab_iconst (pc := 176) (v := nI 2) dX11_files_176 (by decide) ?_
          refine mo_ild (pc := 177) dX11_files_177 (by decide) rfl (by decide) (by decide) ?_
          refine ab_aload_n (pc := 178) dX11_files_178 rfl rfl ?_
          refine mo_gr (pc := 179) dX11_files_179 fl_X11_61 rfl rfl ?_
          refine ab_iconst (pc := 182) (v := nI 3) dX11_files_182 (by decide) ?_
          refine mo_ild (pc := 183) dX11_files_183 (by decide) rfl (by decide) (by decide) ?_
          obtain ⟨o10, hD⟩ := hD
          obtain ⟨o11, hD⟩ := hD
          refine ab_stk2 (congrArg Value.int (ab_nat o11)) (congrArg Value.int (ab_nat o10)) ?_
          obtain ⟨o12, hD⟩ := hD
          refine mo_invv (N := mX11_copies) (pc := 184) (d' := 0) (av := [_, _]) dX11_files_184 ml_X11_175 fv_X11_copies (Nat.le_of_ble_eq_true rfl) (by decide) (c_copies _ _ _ o12) ?_
          refine ab_aload_n (pc := 187) dX11_files_187 rfl rfl ?_
          refine ab_bipush (pc := 188) (v := nI 32) dX11_files_188 (by decide) ?_
          refine ab_iconst (pc := 190) (v := nI 0) dX11_files_190 (by decide) ?_
          refine ab_iconst (pc := 191) (v := nI 0) dX11_files_191 (by decide) ?_
          obtain ⟨o14, hD⟩ := hD
          refine mo_invv (N := mX11_drafts) (pc := 192) (d' := 0) (av := [_, _, _]) dX11_files_192 ml_X11_152 fv_X11_drafts (Nat.le_of_ble_eq_true rfl) (by decide) (c_drafts _ _ _ _ o14) ?_
          refine ab_aload_n (pc := 195) dX11_files_195 rfl rfl ?_
          refine ab_iconst (pc := 196) (v := nI 2) dX11_files_196 (by decide) ?_
          refine ab_iconst (pc := 197) (v := nI 3) dX11_files_197 (by decide) ?_
          obtain ⟨o16, hD⟩ := hD
          refine mo_invv (N := mX11_sends) (pc := 198) (d' := 3) (av := [_, _]) dX11_files_198 ml_X11_57 fv_X11_sends (Nat.le_of_ble_eq_true rfl) (by decide) (c_sends _ _ _ o16) ?_
          refine mo_vr (pc := 201) dX11_files_201 rfl ?_
          first | (rw [Ffiles_11]; (try dsimp only); rw [if_pos c_15, if_neg c_62, if_neg (fun h => absurd (c_85.symm.trans h) (by decide)), if_neg (fun h => absurd (c_85.symm.trans h) (by decide)), if_pos c_85]; done) | (rw [Ffiles_11]; (try dsimp only); rw [if_pos c_15, if_neg c_62, if_neg (fun h => absurd (c_85.symm.trans h) (by decide)), if_neg (fun h => absurd (c_85.symm.trans h) (by decide)), if_pos c_85]; rfl)
        · replace hD := hD.2.2.2.1 c_85
          refine ab_aload_n (pc := 202) dX11_files_202 rfl rfl ?_
          refine ab_aload_n (pc := 203) dX11_files_203 rfl rfl ?_
          refine mo_gr (pc := 204) dX11_files_204 fl_X11_61 rfl rfl ?_
          refine ab_iconst (pc := 207) (v := nI 2) dX11_files_207 (by decide) ?_
          refine mo_ild (pc := 208) dX11_files_208 (by decide) rfl (by decide) (by decide) ?_
          obtain ⟨o18, hD⟩ := hD
          refine ab_stk1 (congrArg Value.int (ab_nat o18)) ?_
          obtain ⟨o19, hD⟩ := hD
          refine mo_invv (N := mX11_closesAll) (pc := 209) (d' := 0) (av := [_]) dX11_files_209 ml_X11_178 fv_X11_closesAll (Nat.le_of_ble_eq_true rfl) (by decide) (c_closesAll _ _ o19) ?_
          refine ab_aload_n (pc := 212) dX11_files_212 rfl rfl ?_
          refine ab_bipush (pc := 213) (v := nI 32) dX11_files_213 (by decide) ?_
          refine ab_iconst (pc := 215) (v := nI 0) dX11_files_215 (by decide) ?_
          refine ab_iconst (pc := 216) (v := nI 0) dX11_files_216 (by decide) ?_
          obtain ⟨o21, hD⟩ := hD
          refine mo_invv (N := mX11_drafts) (pc := 217) (d' := 0) (av := [_, _, _]) dX11_files_217 ml_X11_152 fv_X11_drafts (Nat.le_of_ble_eq_true rfl) (by decide) (c_drafts _ _ _ _ o21) ?_
          refine ab_aload_n (pc := 220) dX11_files_220 rfl rfl ?_
          refine ab_iconst (pc := 221) (v := nI 2) dX11_files_221 (by decide) ?_
          refine ab_iconst (pc := 222) (v := nI 3) dX11_files_222 (by decide) ?_
          obtain ⟨o23, hD⟩ := hD
          refine mo_invv (N := mX11_sends) (pc := 223) (d' := 3) (av := [_, _]) dX11_files_223 ml_X11_57 fv_X11_sends (Nat.le_of_ble_eq_true rfl) (by decide) (c_sends _ _ _ o23) ?_
          refine mo_vr (pc := 226) dX11_files_226 rfl ?_
          first | (rw [Ffiles_11]; (try dsimp only); rw [if_pos c_15, if_neg c_62, if_neg (fun h => absurd (c_85.symm.trans h) (by decide)), if_neg (fun h => absurd (c_85.symm.trans h) (by decide)), if_neg (fun h => absurd (c_85.symm.trans h) (by decide)), if_pos c_85]; done) | (rw [Ffiles_11]; (try dsimp only); rw [if_pos c_15, if_neg c_62, if_neg (fun h => absurd (c_85.symm.trans h) (by decide)), if_neg (fun h => absurd (c_85.symm.trans h) (by decide)), if_neg (fun h => absurd (c_85.symm.trans h) (by decide)), if_pos c_85]; rfl)
        · replace hD := hD.2.2.2.2.1 c_85
          refine ab_aload_n (pc := 149) dX11_files_149 rfl rfl ?_
          refine ab_aload_n (pc := 150) dX11_files_150 rfl rfl ?_
          refine mo_gr (pc := 151) dX11_files_151 fl_X11_61 rfl rfl ?_
          refine ab_iconst (pc := 154) (v := nI 2) dX11_files_154 (by decide) ?_
          refine mo_ild (pc := 155) dX11_files_155 (by decide) rfl (by decide) (by decide) ?_
          refine mo_pi (pc := 156) dX11_files_156 fl_X11_32 rfl rfl (ab_ok_i _) ?_
          refine ab_aload_n (pc := 159) dX11_files_159 rfl rfl ?_
          refine mo_gi (pc := 160) dX11_files_160 fl_X11_166 rfl ?_
          refine ab_if_eq (pc := 163) (tgt := 170) dX11_files_163 (by decide) (fun c_163 => ?_) (fun c_163 => ?_)
          · refine mo_vr (pc := 170) dX11_files_170 rfl ?_
            first | (rw [Ffiles_11]; (try dsimp only); rw [if_pos c_15, if_neg c_62, if_neg (fun h => absurd (c_85.symm.trans h) (by decide)), if_neg (fun h => absurd (c_85.symm.trans h) (by decide)), if_neg (fun h => absurd (c_85.symm.trans h) (by decide)), if_neg (fun h => absurd (c_85.symm.trans h) (by decide)), if_pos c_85, if_pos c_163]; done) | (rw [Ffiles_11]; (try dsimp only); rw [if_pos c_15, if_neg c_62, if_neg (fun h => absurd (c_85.symm.trans h) (by decide)), if_neg (fun h => absurd (c_85.symm.trans h) (by decide)), if_neg (fun h => absurd (c_85.symm.trans h) (by decide)), if_neg (fun h => absurd (c_85.symm.trans h) (by decide)), if_pos c_85, if_pos c_163]; rfl)
          · replace hD := hD.2 c_163
            refine ab_aload_n (pc := 166) dX11_files_166 rfl rfl ?_
            obtain ⟨o26, hD⟩ := hD
            refine mo_invv (N := mX11_asksDriver) (pc := 167) (d' := 4) (av := []) dX11_files_167 ml_X11_172 fv_X11_asksDriver (Nat.le_of_ble_eq_true rfl) (by decide) (c_asksDriver  _ o26) ?_
            refine mo_vr (pc := 170) dX11_files_170 rfl ?_
            first | (rw [Ffiles_11]; (try dsimp only); rw [if_pos c_15, if_neg c_62, if_neg (fun h => absurd (c_85.symm.trans h) (by decide)), if_neg (fun h => absurd (c_85.symm.trans h) (by decide)), if_neg (fun h => absurd (c_85.symm.trans h) (by decide)), if_neg (fun h => absurd (c_85.symm.trans h) (by decide)), if_pos c_85, if_neg c_163]; done) | (rw [Ffiles_11]; (try dsimp only); rw [if_pos c_15, if_neg c_62, if_neg (fun h => absurd (c_85.symm.trans h) (by decide)), if_neg (fun h => absurd (c_85.symm.trans h) (by decide)), if_neg (fun h => absurd (c_85.symm.trans h) (by decide)), if_neg (fun h => absurd (c_85.symm.trans h) (by decide)), if_pos c_85, if_neg c_163]; rfl)
        · replace hD := hD.2.2.2.2.2 c_85
          refine ab_aload_n (pc := 227) dX11_files_227 rfl rfl ?_
          refine ab_iload_n (pc := 228) dX11_files_228 rfl rfl ?_
          refine ab_aload_n (pc := 229) dX11_files_229 rfl rfl ?_
          refine mo_gr (pc := 230) dX11_files_230 fl_X11_61 rfl rfl ?_
          refine ab_iconst (pc := 233) (v := nI 1) dX11_files_233 (by decide) ?_
          refine mo_ild (pc := 234) dX11_files_234 (by decide) rfl (by decide) (by decide) ?_
          refine ab_aload_n (pc := 235) dX11_files_235 rfl rfl ?_
          refine mo_gr (pc := 236) dX11_files_236 fl_X11_61 rfl rfl ?_
          refine ab_iconst (pc := 239) (v := nI 2) dX11_files_239 (by decide) ?_
          refine mo_ild (pc := 240) dX11_files_240 (by decide) rfl (by decide) (by decide) ?_
          refine ab_aload_n (pc := 241) dX11_files_241 rfl rfl ?_
          refine mo_gr (pc := 242) dX11_files_242 fl_X11_61 rfl rfl ?_
          refine ab_iconst (pc := 245) (v := nI 3) dX11_files_245 (by decide) ?_
          refine mo_ild (pc := 246) dX11_files_246 (by decide) rfl (by decide) (by decide) ?_
          obtain ⟨o28, hD⟩ := hD
          refine ab_stk4 rfl rfl rfl (congrArg Value.int (ab_nat o28)) ?_
          obtain ⟨o29, hD⟩ := hD
          refine mo_invv (N := mX11_begins) (pc := 247) (d' := 6) (av := [_, _, _, _]) dX11_files_247 ml_X11_182 fv_X11_begins (Nat.le_of_ble_eq_true rfl) (by decide) (c_begins _ _ _ _ _ o29) ?_
          refine mo_vr (pc := 250) dX11_files_250 rfl ?_
          first | (rw [Ffiles_11]; (try dsimp only); rw [if_pos c_15, if_neg c_62, if_neg (c_85 _ (List.mem_of_getElem? (i := 0) rfl)), if_neg (c_85 _ (List.mem_of_getElem? (i := 1) rfl)), if_neg (c_85 _ (List.mem_of_getElem? (i := 2) rfl)), if_neg (c_85 _ (List.mem_of_getElem? (i := 3) rfl)), if_neg (c_85 _ (List.mem_of_getElem? (i := 4) rfl))]; done) | (rw [Ffiles_11]; (try dsimp only); rw [if_pos c_15, if_neg c_62, if_neg (c_85 _ (List.mem_of_getElem? (i := 0) rfl)), if_neg (c_85 _ (List.mem_of_getElem? (i := 1) rfl)), if_neg (c_85 _ (List.mem_of_getElem? (i := 2) rfl)), if_neg (c_85 _ (List.mem_of_getElem? (i := 3) rfl)), if_neg (c_85 _ (List.mem_of_getElem? (i := 4) rfl))]; rfl)
      · refine mo_vr (pc := 65) dX11_files_65 rfl ?_
        first | (rw [Ffiles_11]; (try dsimp only); rw [if_pos c_15, if_pos c_62]; done) | (rw [Ffiles_11]; (try dsimp only); rw [if_pos c_15, if_pos c_62]; rfl)
    · replace hD := hD.2 c_15
      refine ab_iload_n (pc := 18) dX11_files_18 rfl rfl ?_
      refine ab_aload_n (pc := 19) dX11_files_19 rfl rfl ?_
      refine mo_gr (pc := 20) dX11_files_20 fl_X11_38 rfl rfl ?_
      refine ab_iconst (pc := 23) (v := nI 2) dX11_files_23 (by decide) ?_
      refine mo_ild (pc := 24) dX11_files_24 (by decide) rfl (by decide) (by decide) ?_
      obtain ⟨o31, hD⟩ := hD
      refine ab_nat1 (ab_nat o31) ?_
      obtain ⟨o32, hD⟩ := hD
      obtain ⟨o33, hD⟩ := hD
      refine ab_icmp_geN (pc := 25) (tgt := 55) dX11_files_25 (by decide) o32 o33 (fun c_25 => ?_) (fun c_25 => ?_)
      · replace hD := hD.1 c_25
        refine ab_iload_n (pc := 55) dX11_files_55 rfl rfl ?_
        refine ab_aload_n (pc := 56) dX11_files_56 rfl rfl ?_
        refine mo_gr (pc := 57) dX11_files_57 fl_X11_38 rfl rfl ?_
        refine ab_iconst (pc := 60) (v := nI 2) dX11_files_60 (by decide) ?_
        refine mo_ild (pc := 61) dX11_files_61 (by decide) rfl (by decide) (by decide) ?_
        obtain ⟨o34, hD⟩ := hD
        refine ab_nat1 (ab_nat o34) ?_
        obtain ⟨o35, hD⟩ := hD
        obtain ⟨o36, hD⟩ := hD
        refine ab_icmp_neN (pc := 62) (tgt := 66) dX11_files_62 (by decide) o35 o36 (fun c_62 => ?_) (fun c_62 => ?_)
        · replace hD := hD.2 c_62
          refine ab_aload_n (pc := 66) dX11_files_66 rfl rfl ?_
          refine ab_iconst (pc := 67) (v := nI 2) dX11_files_67 (by decide) ?_
          refine ab_iload_n (pc := 68) dX11_files_68 rfl rfl ?_
          obtain ⟨o37, hD⟩ := hD
          refine mo_invv (N := mX11_takeOut) (pc := 69) (d' := 1) (av := [_, _]) dX11_files_69 ml_X11_143 fv_X11_takeOut (Nat.le_of_ble_eq_true rfl) (by decide) (c_takeOut _ _ _ o37) ?_
          refine ab_aload_n (pc := 72) dX11_files_72 rfl rfl ?_
          refine mo_gr (pc := 73) dX11_files_73 fl_X11_61 rfl rfl ?_
          refine ab_iconst (pc := 76) (v := nI 0) dX11_files_76 (by decide) ?_
          refine mo_ild (pc := 77) dX11_files_77 (by decide) rfl (by decide) (by decide) ?_
          refine ab_istore_n (pc := 78) dX11_files_78 rfl (Nat.le_of_ble_eq_true rfl) rfl ?_
          refine ab_aload_n (pc := 79) dX11_files_79 rfl rfl ?_
          refine mo_gr (pc := 80) dX11_files_80 fl_X11_61 rfl rfl ?_
          refine ab_iconst (pc := 83) (v := nI 1) dX11_files_83 (by decide) ?_
          refine mo_ild (pc := 84) dX11_files_84 (by decide) rfl (by decide) (by decide) ?_
          refine ab_lsw (pc := 85) [(0, 136), (22, 137), (30, 171), (31, 202), (42, 149)] 227 dX11_files_85 (by decide +kernel) (by decide +kernel) (ab_c1 (fun c_85 => ?_) (ab_c1 (fun c_85 => ?_) (ab_c1 (fun c_85 => ?_) (ab_c1 (fun c_85 => ?_) (ab_c1 (fun c_85 => ?_) (ab_c0)))))) (fun c_85 => ?_)
          · refine mo_vr (pc := 136) dX11_files_136 rfl ?_
            first | (rw [Ffiles_11]; (try dsimp only); rw [if_neg c_15, if_pos c_25, if_neg c_62, if_pos c_85]; done) | (rw [Ffiles_11]; (try dsimp only); rw [if_neg c_15, if_pos c_25, if_neg c_62, if_pos c_85]; rfl)
          · replace hD := hD.2.1 c_85
            refine ab_aload_n (pc := 137) dX11_files_137 rfl rfl ?_
            refine mo_gi (pc := 138) dX11_files_138 fl_X11_166 rfl ?_
            refine ab_if_eq (pc := 141) (tgt := 148) dX11_files_141 (by decide) (fun c_141 => ?_) (fun c_141 => ?_)
            · refine mo_vr (pc := 148) dX11_files_148 rfl ?_
              first | (rw [Ffiles_11]; (try dsimp only); rw [if_neg c_15, if_pos c_25, if_neg c_62, if_neg (fun h => absurd (c_85.symm.trans h) (by decide)), if_pos c_85, if_pos c_141]; done) | (rw [Ffiles_11]; (try dsimp only); rw [if_neg c_15, if_pos c_25, if_neg c_62, if_neg (fun h => absurd (c_85.symm.trans h) (by decide)), if_pos c_85, if_pos c_141]; rfl)
            · replace hD := hD.2 c_141
              refine ab_aload_n (pc := 144) dX11_files_144 rfl rfl ?_
              obtain ⟨o39, hD⟩ := hD
              refine mo_invv (N := mX11_goesOn) (pc := 145) (d' := 5) (av := []) dX11_files_145 ml_X11_169 fv_X11_goesOn (Nat.le_of_ble_eq_true rfl) (by decide) (c_goesOn  _ o39) ?_
              refine mo_vr (pc := 148) dX11_files_148 rfl ?_
              first | (rw [Ffiles_11]; (try dsimp only); rw [if_neg c_15, if_pos c_25, if_neg c_62, if_neg (fun h => absurd (c_85.symm.trans h) (by decide)), if_pos c_85, if_neg c_141]; done) | (rw [Ffiles_11]; (try dsimp only); rw [if_neg c_15, if_pos c_25, if_neg c_62, if_neg (fun h => absurd (c_85.symm.trans h) (by decide)), if_pos c_85, if_neg c_141]; rfl)
          · replace hD := hD.2.2.1 c_85
            refine ab_aload_n (pc := 171) dX11_files_171 rfl rfl ?_
            refine ab_aload_n (pc := 172) dX11_files_172 rfl rfl ?_
            refine mo_gr (pc := 173) dX11_files_173 fl_X11_61 rfl rfl ?_
            refine ab_iconst (pc := 176) (v := nI 2) dX11_files_176 (by decide) ?_
            refine mo_ild (pc := 177) dX11_files_177 (by decide) rfl (by decide) (by decide) ?_
            refine ab_aload_n (pc := 178) dX11_files_178 rfl rfl ?_
            refine mo_gr (pc := 179) dX11_files_179 fl_X11_61 rfl rfl ?_
            refine ab_iconst (pc := 182) (v := nI 3) dX11_files_182 (by decide) ?_
            refine mo_ild (pc := 183) dX11_files_183 (by decide) rfl (by decide) (by decide) ?_
            obtain ⟨o41, hD⟩ := hD
            obtain ⟨o42, hD⟩ := hD
            refine ab_stk2 (congrArg Value.int (ab_nat o42)) (congrArg Value.int (ab_nat o41)) ?_
            obtain ⟨o43, hD⟩ := hD
            refine mo_invv (N := mX11_copies) (pc := 184) (d' := 0) (av := [_, _]) dX11_files_184 ml_X11_175 fv_X11_copies (Nat.le_of_ble_eq_true rfl) (by decide) (c_copies _ _ _ o43) ?_
            refine ab_aload_n (pc := 187) dX11_files_187 rfl rfl ?_
            refine ab_bipush (pc := 188) (v := nI 32) dX11_files_188 (by decide) ?_
            refine ab_iconst (pc := 190) (v := nI 0) dX11_files_190 (by decide) ?_
            refine ab_iconst (pc := 191) (v := nI 0) dX11_files_191 (by decide) ?_
            obtain ⟨o45, hD⟩ := hD
            refine mo_invv (N := mX11_drafts) (pc := 192) (d' := 0) (av := [_, _, _]) dX11_files_192 ml_X11_152 fv_X11_drafts (Nat.le_of_ble_eq_true rfl) (by decide) (c_drafts _ _ _ _ o45) ?_
            refine ab_aload_n (pc := 195) dX11_files_195 rfl rfl ?_
            refine ab_iconst (pc := 196) (v := nI 2) dX11_files_196 (by decide) ?_
            refine ab_iconst (pc := 197) (v := nI 3) dX11_files_197 (by decide) ?_
            obtain ⟨o47, hD⟩ := hD
            refine mo_invv (N := mX11_sends) (pc := 198) (d' := 3) (av := [_, _]) dX11_files_198 ml_X11_57 fv_X11_sends (Nat.le_of_ble_eq_true rfl) (by decide) (c_sends _ _ _ o47) ?_
            refine mo_vr (pc := 201) dX11_files_201 rfl ?_
            first | (rw [Ffiles_11]; (try dsimp only); rw [if_neg c_15, if_pos c_25, if_neg c_62, if_neg (fun h => absurd (c_85.symm.trans h) (by decide)), if_neg (fun h => absurd (c_85.symm.trans h) (by decide)), if_pos c_85]; done) | (rw [Ffiles_11]; (try dsimp only); rw [if_neg c_15, if_pos c_25, if_neg c_62, if_neg (fun h => absurd (c_85.symm.trans h) (by decide)), if_neg (fun h => absurd (c_85.symm.trans h) (by decide)), if_pos c_85]; rfl)
          · replace hD := hD.2.2.2.1 c_85
            refine ab_aload_n (pc := 202) dX11_files_202 rfl rfl ?_
            refine ab_aload_n (pc := 203) dX11_files_203 rfl rfl ?_
            refine mo_gr (pc := 204) dX11_files_204 fl_X11_61 rfl rfl ?_
            refine ab_iconst (pc := 207) (v := nI 2) dX11_files_207 (by decide) ?_
            refine mo_ild (pc := 208) dX11_files_208 (by decide) rfl (by decide) (by decide) ?_
            obtain ⟨o49, hD⟩ := hD
            refine ab_stk1 (congrArg Value.int (ab_nat o49)) ?_
            obtain ⟨o50, hD⟩ := hD
            refine mo_invv (N := mX11_closesAll) (pc := 209) (d' := 0) (av := [_]) dX11_files_209 ml_X11_178 fv_X11_closesAll (Nat.le_of_ble_eq_true rfl) (by decide) (c_closesAll _ _ o50) ?_
            refine ab_aload_n (pc := 212) dX11_files_212 rfl rfl ?_
            refine ab_bipush (pc := 213) (v := nI 32) dX11_files_213 (by decide) ?_
            refine ab_iconst (pc := 215) (v := nI 0) dX11_files_215 (by decide) ?_
            refine ab_iconst (pc := 216) (v := nI 0) dX11_files_216 (by decide) ?_
            obtain ⟨o52, hD⟩ := hD
            refine mo_invv (N := mX11_drafts) (pc := 217) (d' := 0) (av := [_, _, _]) dX11_files_217 ml_X11_152 fv_X11_drafts (Nat.le_of_ble_eq_true rfl) (by decide) (c_drafts _ _ _ _ o52) ?_
            refine ab_aload_n (pc := 220) dX11_files_220 rfl rfl ?_
            refine ab_iconst (pc := 221) (v := nI 2) dX11_files_221 (by decide) ?_
            refine ab_iconst (pc := 222) (v := nI 3) dX11_files_222 (by decide) ?_
            obtain ⟨o54, hD⟩ := hD
            refine mo_invv (N := mX11_sends) (pc := 223) (d' := 3) (av := [_, _]) dX11_files_223 ml_X11_57 fv_X11_sends (Nat.le_of_ble_eq_true rfl) (by decide) (c_sends _ _ _ o54) ?_
            refine mo_vr (pc := 226) dX11_files_226 rfl ?_
            first | (rw [Ffiles_11]; (try dsimp only); rw [if_neg c_15, if_pos c_25, if_neg c_62, if_neg (fun h => absurd (c_85.symm.trans h) (by decide)), if_neg (fun h => absurd (c_85.symm.trans h) (by decide)), if_neg (fun h => absurd (c_85.symm.trans h) (by decide)), if_pos c_85]; done) | (rw [Ffiles_11]; (try dsimp only); rw [if_neg c_15, if_pos c_25, if_neg c_62, if_neg (fun h => absurd (c_85.symm.trans h) (by decide)), if_neg (fun h => absurd (c_85.symm.trans h) (by decide)), if_neg (fun h => absurd (c_85.symm.trans h) (by decide)), if_pos c_85]; rfl)
          · replace hD := hD.2.2.2.2.1 c_85
            refine ab_aload_n (pc := 149) dX11_files_149 rfl rfl ?_
            refine ab_aload_n (pc := 150) dX11_files_150 rfl rfl ?_
            refine mo_gr (pc := 151) dX11_files_151 fl_X11_61 rfl rfl ?_
            refine ab_iconst (pc := 154) (v := nI 2) dX11_files_154 (by decide) ?_
            refine mo_ild (pc := 155) dX11_files_155 (by decide) rfl (by decide) (by decide) ?_
            refine mo_pi (pc := 156) dX11_files_156 fl_X11_32 rfl rfl (ab_ok_i _) ?_
            refine ab_aload_n (pc := 159) dX11_files_159 rfl rfl ?_
            refine mo_gi (pc := 160) dX11_files_160 fl_X11_166 rfl ?_
            refine ab_if_eq (pc := 163) (tgt := 170) dX11_files_163 (by decide) (fun c_163 => ?_) (fun c_163 => ?_)
            · refine mo_vr (pc := 170) dX11_files_170 rfl ?_
              first | (rw [Ffiles_11]; (try dsimp only); rw [if_neg c_15, if_pos c_25, if_neg c_62, if_neg (fun h => absurd (c_85.symm.trans h) (by decide)), if_neg (fun h => absurd (c_85.symm.trans h) (by decide)), if_neg (fun h => absurd (c_85.symm.trans h) (by decide)), if_neg (fun h => absurd (c_85.symm.trans h) (by decide)), if_pos c_85, if_pos c_163]; done) | (rw [Ffiles_11]; (try dsimp only); rw [if_neg c_15, if_pos c_25, if_neg c_62, if_neg (fun h => absurd (c_85.symm.trans h) (by decide)), if_neg (fun h => absurd (c_85.symm.trans h) (by decide)), if_neg (fun h => absurd (c_85.symm.trans h) (by decide)), if_neg (fun h => absurd (c_85.symm.trans h) (by decide)), if_pos c_85, if_pos c_163]; rfl)
            · replace hD := hD.2 c_163
              refine ab_aload_n (pc := 166) dX11_files_166 rfl rfl ?_
              obtain ⟨o57, hD⟩ := hD
              refine mo_invv (N := mX11_asksDriver) (pc := 167) (d' := 4) (av := []) dX11_files_167 ml_X11_172 fv_X11_asksDriver (Nat.le_of_ble_eq_true rfl) (by decide) (c_asksDriver  _ o57) ?_
              refine mo_vr (pc := 170) dX11_files_170 rfl ?_
              first | (rw [Ffiles_11]; (try dsimp only); rw [if_neg c_15, if_pos c_25, if_neg c_62, if_neg (fun h => absurd (c_85.symm.trans h) (by decide)), if_neg (fun h => absurd (c_85.symm.trans h) (by decide)), if_neg (fun h => absurd (c_85.symm.trans h) (by decide)), if_neg (fun h => absurd (c_85.symm.trans h) (by decide)), if_pos c_85, if_neg c_163]; done) | (rw [Ffiles_11]; (try dsimp only); rw [if_neg c_15, if_pos c_25, if_neg c_62, if_neg (fun h => absurd (c_85.symm.trans h) (by decide)), if_neg (fun h => absurd (c_85.symm.trans h) (by decide)), if_neg (fun h => absurd (c_85.symm.trans h) (by decide)), if_neg (fun h => absurd (c_85.symm.trans h) (by decide)), if_pos c_85, if_neg c_163]; rfl)
          · replace hD := hD.2.2.2.2.2 c_85
            refine ab_aload_n (pc := 227) dX11_files_227 rfl rfl ?_
            refine ab_iload_n (pc := 228) dX11_files_228 rfl rfl ?_
            refine ab_aload_n (pc := 229) dX11_files_229 rfl rfl ?_
            refine mo_gr (pc := 230) dX11_files_230 fl_X11_61 rfl rfl ?_
            refine ab_iconst (pc := 233) (v := nI 1) dX11_files_233 (by decide) ?_
            refine mo_ild (pc := 234) dX11_files_234 (by decide) rfl (by decide) (by decide) ?_
            refine ab_aload_n (pc := 235) dX11_files_235 rfl rfl ?_
            refine mo_gr (pc := 236) dX11_files_236 fl_X11_61 rfl rfl ?_
            refine ab_iconst (pc := 239) (v := nI 2) dX11_files_239 (by decide) ?_
            refine mo_ild (pc := 240) dX11_files_240 (by decide) rfl (by decide) (by decide) ?_
            refine ab_aload_n (pc := 241) dX11_files_241 rfl rfl ?_
            refine mo_gr (pc := 242) dX11_files_242 fl_X11_61 rfl rfl ?_
            refine ab_iconst (pc := 245) (v := nI 3) dX11_files_245 (by decide) ?_
            refine mo_ild (pc := 246) dX11_files_246 (by decide) rfl (by decide) (by decide) ?_
            obtain ⟨o59, hD⟩ := hD
            refine ab_stk4 rfl rfl rfl (congrArg Value.int (ab_nat o59)) ?_
            obtain ⟨o60, hD⟩ := hD
            refine mo_invv (N := mX11_begins) (pc := 247) (d' := 6) (av := [_, _, _, _]) dX11_files_247 ml_X11_182 fv_X11_begins (Nat.le_of_ble_eq_true rfl) (by decide) (c_begins _ _ _ _ _ o60) ?_
            refine mo_vr (pc := 250) dX11_files_250 rfl ?_
            first | (rw [Ffiles_11]; (try dsimp only); rw [if_neg c_15, if_pos c_25, if_neg c_62, if_neg (c_85 _ (List.mem_of_getElem? (i := 0) rfl)), if_neg (c_85 _ (List.mem_of_getElem? (i := 1) rfl)), if_neg (c_85 _ (List.mem_of_getElem? (i := 2) rfl)), if_neg (c_85 _ (List.mem_of_getElem? (i := 3) rfl)), if_neg (c_85 _ (List.mem_of_getElem? (i := 4) rfl))]; done) | (rw [Ffiles_11]; (try dsimp only); rw [if_neg c_15, if_pos c_25, if_neg c_62, if_neg (c_85 _ (List.mem_of_getElem? (i := 0) rfl)), if_neg (c_85 _ (List.mem_of_getElem? (i := 1) rfl)), if_neg (c_85 _ (List.mem_of_getElem? (i := 2) rfl)), if_neg (c_85 _ (List.mem_of_getElem? (i := 3) rfl)), if_neg (c_85 _ (List.mem_of_getElem? (i := 4) rfl))]; rfl)
        · refine mo_vr (pc := 65) dX11_files_65 rfl ?_
          first | (rw [Ffiles_11]; (try dsimp only); rw [if_neg c_15, if_pos c_25, if_pos c_62]; done) | (rw [Ffiles_11]; (try dsimp only); rw [if_neg c_15, if_pos c_25, if_pos c_62]; rfl)
      · replace hD := hD.2 c_25
        refine ab_aload_n (pc := 28) dX11_files_28 rfl rfl ?_
        refine ab_iconst (pc := 29) (v := nI 2) dX11_files_29 (by decide) ?_
        refine ab_iload_n (pc := 30) dX11_files_30 rfl rfl ?_
        refine ab_iconst (pc := 31) (v := nI 0) dX11_files_31 (by decide) ?_
        obtain ⟨o62, hD⟩ := hD
        refine mo_invr (N := mX11_field) (pc := 32) (d' := 0) (av := [_, _, _]) dX11_files_32 ml_X11_156 fv_X11_field (Nat.le_of_ble_eq_true rfl) (by decide) (c_field _ _ _ _ o62) ?_
        refine ab_iconst (pc := 35) (v := nI 1) dX11_files_35 (by decide) ?_
        refine ab_icmp_le (pc := 36) (tgt := 55) dX11_files_36 (by decide) (fun c_36 => ?_) (fun c_36 => ?_)
        · replace hD := hD.1 c_36
          refine ab_iload_n (pc := 55) dX11_files_55 rfl rfl ?_
          refine ab_aload_n (pc := 56) dX11_files_56 rfl rfl ?_
          refine mo_gr (pc := 57) dX11_files_57 fl_X11_38 rfl rfl ?_
          refine ab_iconst (pc := 60) (v := nI 2) dX11_files_60 (by decide) ?_
          refine mo_ild (pc := 61) dX11_files_61 (by decide) rfl (by decide) (by decide) ?_
          obtain ⟨o63, hD⟩ := hD
          refine ab_nat1 (ab_nat o63) ?_
          obtain ⟨o64, hD⟩ := hD
          obtain ⟨o65, hD⟩ := hD
          refine ab_icmp_neN (pc := 62) (tgt := 66) dX11_files_62 (by decide) o64 o65 (fun c_62 => ?_) (fun c_62 => ?_)
          · replace hD := hD.2 c_62
            refine ab_aload_n (pc := 66) dX11_files_66 rfl rfl ?_
            refine ab_iconst (pc := 67) (v := nI 2) dX11_files_67 (by decide) ?_
            refine ab_iload_n (pc := 68) dX11_files_68 rfl rfl ?_
            obtain ⟨o66, hD⟩ := hD
            refine mo_invv (N := mX11_takeOut) (pc := 69) (d' := 1) (av := [_, _]) dX11_files_69 ml_X11_143 fv_X11_takeOut (Nat.le_of_ble_eq_true rfl) (by decide) (c_takeOut _ _ _ o66) ?_
            refine ab_aload_n (pc := 72) dX11_files_72 rfl rfl ?_
            refine mo_gr (pc := 73) dX11_files_73 fl_X11_61 rfl rfl ?_
            refine ab_iconst (pc := 76) (v := nI 0) dX11_files_76 (by decide) ?_
            refine mo_ild (pc := 77) dX11_files_77 (by decide) rfl (by decide) (by decide) ?_
            refine ab_istore_n (pc := 78) dX11_files_78 rfl (Nat.le_of_ble_eq_true rfl) rfl ?_
            refine ab_aload_n (pc := 79) dX11_files_79 rfl rfl ?_
            refine mo_gr (pc := 80) dX11_files_80 fl_X11_61 rfl rfl ?_
            refine ab_iconst (pc := 83) (v := nI 1) dX11_files_83 (by decide) ?_
            refine mo_ild (pc := 84) dX11_files_84 (by decide) rfl (by decide) (by decide) ?_
            refine ab_lsw (pc := 85) [(0, 136), (22, 137), (30, 171), (31, 202), (42, 149)] 227 dX11_files_85 (by decide +kernel) (by decide +kernel) (ab_c1 (fun c_85 => ?_) (ab_c1 (fun c_85 => ?_) (ab_c1 (fun c_85 => ?_) (ab_c1 (fun c_85 => ?_) (ab_c1 (fun c_85 => ?_) (ab_c0)))))) (fun c_85 => ?_)
            · refine mo_vr (pc := 136) dX11_files_136 rfl ?_
              first | (rw [Ffiles_11]; (try dsimp only); rw [if_neg c_15, if_neg c_25, if_pos c_36, if_neg c_62, if_pos c_85]; done) | (rw [Ffiles_11]; (try dsimp only); rw [if_neg c_15, if_neg c_25, if_pos c_36, if_neg c_62, if_pos c_85]; rfl)
            · replace hD := hD.2.1 c_85
              refine ab_aload_n (pc := 137) dX11_files_137 rfl rfl ?_
              refine mo_gi (pc := 138) dX11_files_138 fl_X11_166 rfl ?_
              refine ab_if_eq (pc := 141) (tgt := 148) dX11_files_141 (by decide) (fun c_141 => ?_) (fun c_141 => ?_)
              · refine mo_vr (pc := 148) dX11_files_148 rfl ?_
                first | (rw [Ffiles_11]; (try dsimp only); rw [if_neg c_15, if_neg c_25, if_pos c_36, if_neg c_62, if_neg (fun h => absurd (c_85.symm.trans h) (by decide)), if_pos c_85, if_pos c_141]; done) | (rw [Ffiles_11]; (try dsimp only); rw [if_neg c_15, if_neg c_25, if_pos c_36, if_neg c_62, if_neg (fun h => absurd (c_85.symm.trans h) (by decide)), if_pos c_85, if_pos c_141]; rfl)
              · replace hD := hD.2 c_141
                refine ab_aload_n (pc := 144) dX11_files_144 rfl rfl ?_
                obtain ⟨o68, hD⟩ := hD
                refine mo_invv (N := mX11_goesOn) (pc := 145) (d' := 5) (av := []) dX11_files_145 ml_X11_169 fv_X11_goesOn (Nat.le_of_ble_eq_true rfl) (by decide) (c_goesOn  _ o68) ?_
                refine mo_vr (pc := 148) dX11_files_148 rfl ?_
                first | (rw [Ffiles_11]; (try dsimp only); rw [if_neg c_15, if_neg c_25, if_pos c_36, if_neg c_62, if_neg (fun h => absurd (c_85.symm.trans h) (by decide)), if_pos c_85, if_neg c_141]; done) | (rw [Ffiles_11]; (try dsimp only); rw [if_neg c_15, if_neg c_25, if_pos c_36, if_neg c_62, if_neg (fun h => absurd (c_85.symm.trans h) (by decide)), if_pos c_85, if_neg c_141]; rfl)
            · replace hD := hD.2.2.1 c_85
              refine ab_aload_n (pc := 171) dX11_files_171 rfl rfl ?_
              refine ab_aload_n (pc := 172) dX11_files_172 rfl rfl ?_
              refine mo_gr (pc := 173) dX11_files_173 fl_X11_61 rfl rfl ?_
              refine ab_iconst (pc := 176) (v := nI 2) dX11_files_176 (by decide) ?_
              refine mo_ild (pc := 177) dX11_files_177 (by decide) rfl (by decide) (by decide) ?_
              refine ab_aload_n (pc := 178) dX11_files_178 rfl rfl ?_
              refine mo_gr (pc := 179) dX11_files_179 fl_X11_61 rfl rfl ?_
              refine ab_iconst (pc := 182) (v := nI 3) dX11_files_182 (by decide) ?_
              refine mo_ild (pc := 183) dX11_files_183 (by decide) rfl (by decide) (by decide) ?_
              obtain ⟨o70, hD⟩ := hD
              obtain ⟨o71, hD⟩ := hD
              refine ab_stk2 (congrArg Value.int (ab_nat o71)) (congrArg Value.int (ab_nat o70)) ?_
              obtain ⟨o72, hD⟩ := hD
              refine mo_invv (N := mX11_copies) (pc := 184) (d' := 0) (av := [_, _]) dX11_files_184 ml_X11_175 fv_X11_copies (Nat.le_of_ble_eq_true rfl) (by decide) (c_copies _ _ _ o72) ?_
              refine ab_aload_n (pc := 187) dX11_files_187 rfl rfl ?_
              refine ab_bipush (pc := 188) (v := nI 32) dX11_files_188 (by decide) ?_
              refine ab_iconst (pc := 190) (v := nI 0) dX11_files_190 (by decide) ?_
              refine ab_iconst (pc := 191) (v := nI 0) dX11_files_191 (by decide) ?_
              obtain ⟨o74, hD⟩ := hD
              refine mo_invv (N := mX11_drafts) (pc := 192) (d' := 0) (av := [_, _, _]) dX11_files_192 ml_X11_152 fv_X11_drafts (Nat.le_of_ble_eq_true rfl) (by decide) (c_drafts _ _ _ _ o74) ?_
              refine ab_aload_n (pc := 195) dX11_files_195 rfl rfl ?_
              refine ab_iconst (pc := 196) (v := nI 2) dX11_files_196 (by decide) ?_
              refine ab_iconst (pc := 197) (v := nI 3) dX11_files_197 (by decide) ?_
              obtain ⟨o76, hD⟩ := hD
              refine mo_invv (N := mX11_sends) (pc := 198) (d' := 3) (av := [_, _]) dX11_files_198 ml_X11_57 fv_X11_sends (Nat.le_of_ble_eq_true rfl) (by decide) (c_sends _ _ _ o76) ?_
              refine mo_vr (pc := 201) dX11_files_201 rfl ?_
              first | (rw [Ffiles_11]; (try dsimp only); rw [if_neg c_15, if_neg c_25, if_pos c_36, if_neg c_62, if_neg (fun h => absurd (c_85.symm.trans h) (by decide)), if_neg (fun h => absurd (c_85.symm.trans h) (by decide)), if_pos c_85]; done) | (rw [Ffiles_11]; (try dsimp only); rw [if_neg c_15, if_neg c_25, if_pos c_36, if_neg c_62, if_neg (fun h => absurd (c_85.symm.trans h) (by decide)), if_neg (fun h => absurd (c_85.symm.trans h) (by decide)), if_pos c_85]; rfl)
            · replace hD := hD.2.2.2.1 c_85
              refine ab_aload_n (pc := 202) dX11_files_202 rfl rfl ?_
              refine ab_aload_n (pc := 203) dX11_files_203 rfl rfl ?_
              refine mo_gr (pc := 204) dX11_files_204 fl_X11_61 rfl rfl ?_
              refine ab_iconst (pc := 207) (v := nI 2) dX11_files_207 (by decide) ?_
              refine mo_ild (pc := 208) dX11_files_208 (by decide) rfl (by decide) (by decide) ?_
              obtain ⟨o78, hD⟩ := hD
              refine ab_stk1 (congrArg Value.int (ab_nat o78)) ?_
              obtain ⟨o79, hD⟩ := hD
              refine mo_invv (N := mX11_closesAll) (pc := 209) (d' := 0) (av := [_]) dX11_files_209 ml_X11_178 fv_X11_closesAll (Nat.le_of_ble_eq_true rfl) (by decide) (c_closesAll _ _ o79) ?_
              refine ab_aload_n (pc := 212) dX11_files_212 rfl rfl ?_
              refine ab_bipush (pc := 213) (v := nI 32) dX11_files_213 (by decide) ?_
              refine ab_iconst (pc := 215) (v := nI 0) dX11_files_215 (by decide) ?_
              refine ab_iconst (pc := 216) (v := nI 0) dX11_files_216 (by decide) ?_
              obtain ⟨o81, hD⟩ := hD
              refine mo_invv (N := mX11_drafts) (pc := 217) (d' := 0) (av := [_, _, _]) dX11_files_217 ml_X11_152 fv_X11_drafts (Nat.le_of_ble_eq_true rfl) (by decide) (c_drafts _ _ _ _ o81) ?_
              refine ab_aload_n (pc := 220) dX11_files_220 rfl rfl ?_
              refine ab_iconst (pc := 221) (v := nI 2) dX11_files_221 (by decide) ?_
              refine ab_iconst (pc := 222) (v := nI 3) dX11_files_222 (by decide) ?_
              obtain ⟨o83, hD⟩ := hD
              refine mo_invv (N := mX11_sends) (pc := 223) (d' := 3) (av := [_, _]) dX11_files_223 ml_X11_57 fv_X11_sends (Nat.le_of_ble_eq_true rfl) (by decide) (c_sends _ _ _ o83) ?_
              refine mo_vr (pc := 226) dX11_files_226 rfl ?_
              first | (rw [Ffiles_11]; (try dsimp only); rw [if_neg c_15, if_neg c_25, if_pos c_36, if_neg c_62, if_neg (fun h => absurd (c_85.symm.trans h) (by decide)), if_neg (fun h => absurd (c_85.symm.trans h) (by decide)), if_neg (fun h => absurd (c_85.symm.trans h) (by decide)), if_pos c_85]; done) | (rw [Ffiles_11]; (try dsimp only); rw [if_neg c_15, if_neg c_25, if_pos c_36, if_neg c_62, if_neg (fun h => absurd (c_85.symm.trans h) (by decide)), if_neg (fun h => absurd (c_85.symm.trans h) (by decide)), if_neg (fun h => absurd (c_85.symm.trans h) (by decide)), if_pos c_85]; rfl)
            · replace hD := hD.2.2.2.2.1 c_85
              refine ab_aload_n (pc := 149) dX11_files_149 rfl rfl ?_
              refine ab_aload_n (pc := 150) dX11_files_150 rfl rfl ?_
              refine mo_gr (pc := 151) dX11_files_151 fl_X11_61 rfl rfl ?_
              refine ab_iconst (pc := 154) (v := nI 2) dX11_files_154 (by decide) ?_
              refine mo_ild (pc := 155) dX11_files_155 (by decide) rfl (by decide) (by decide) ?_
              refine mo_pi (pc := 156) dX11_files_156 fl_X11_32 rfl rfl (ab_ok_i _) ?_
              refine ab_aload_n (pc := 159) dX11_files_159 rfl rfl ?_
              refine mo_gi (pc := 160) dX11_files_160 fl_X11_166 rfl ?_
              refine ab_if_eq (pc := 163) (tgt := 170) dX11_files_163 (by decide) (fun c_163 => ?_) (fun c_163 => ?_)
              · refine mo_vr (pc := 170) dX11_files_170 rfl ?_
                first | (rw [Ffiles_11]; (try dsimp only); rw [if_neg c_15, if_neg c_25, if_pos c_36, if_neg c_62, if_neg (fun h => absurd (c_85.symm.trans h) (by decide)), if_neg (fun h => absurd (c_85.symm.trans h) (by decide)), if_neg (fun h => absurd (c_85.symm.trans h) (by decide)), if_neg (fun h => absurd (c_85.symm.trans h) (by decide)), if_pos c_85, if_pos c_163]; done) | (rw [Ffiles_11]; (try dsimp only); rw [if_neg c_15, if_neg c_25, if_pos c_36, if_neg c_62, if_neg (fun h => absurd (c_85.symm.trans h) (by decide)), if_neg (fun h => absurd (c_85.symm.trans h) (by decide)), if_neg (fun h => absurd (c_85.symm.trans h) (by decide)), if_neg (fun h => absurd (c_85.symm.trans h) (by decide)), if_pos c_85, if_pos c_163]; rfl)
              · replace hD := hD.2 c_163
                refine ab_aload_n (pc := 166) dX11_files_166 rfl rfl ?_
                obtain ⟨o86, hD⟩ := hD
                refine mo_invv (N := mX11_asksDriver) (pc := 167) (d' := 4) (av := []) dX11_files_167 ml_X11_172 fv_X11_asksDriver (Nat.le_of_ble_eq_true rfl) (by decide) (c_asksDriver  _ o86) ?_
                refine mo_vr (pc := 170) dX11_files_170 rfl ?_
                first | (rw [Ffiles_11]; (try dsimp only); rw [if_neg c_15, if_neg c_25, if_pos c_36, if_neg c_62, if_neg (fun h => absurd (c_85.symm.trans h) (by decide)), if_neg (fun h => absurd (c_85.symm.trans h) (by decide)), if_neg (fun h => absurd (c_85.symm.trans h) (by decide)), if_neg (fun h => absurd (c_85.symm.trans h) (by decide)), if_pos c_85, if_neg c_163]; done) | (rw [Ffiles_11]; (try dsimp only); rw [if_neg c_15, if_neg c_25, if_pos c_36, if_neg c_62, if_neg (fun h => absurd (c_85.symm.trans h) (by decide)), if_neg (fun h => absurd (c_85.symm.trans h) (by decide)), if_neg (fun h => absurd (c_85.symm.trans h) (by decide)), if_neg (fun h => absurd (c_85.symm.trans h) (by decide)), if_pos c_85, if_neg c_163]; rfl)
            · replace hD := hD.2.2.2.2.2 c_85
              refine ab_aload_n (pc := 227) dX11_files_227 rfl rfl ?_
              refine ab_iload_n (pc := 228) dX11_files_228 rfl rfl ?_
              refine ab_aload_n (pc := 229) dX11_files_229 rfl rfl ?_
              refine mo_gr (pc := 230) dX11_files_230 fl_X11_61 rfl rfl ?_
              refine ab_iconst (pc := 233) (v := nI 1) dX11_files_233 (by decide) ?_
              refine mo_ild (pc := 234) dX11_files_234 (by decide) rfl (by decide) (by decide) ?_
              refine ab_aload_n (pc := 235) dX11_files_235 rfl rfl ?_
              refine mo_gr (pc := 236) dX11_files_236 fl_X11_61 rfl rfl ?_
              refine ab_iconst (pc := 239) (v := nI 2) dX11_files_239 (by decide) ?_
              refine mo_ild (pc := 240) dX11_files_240 (by decide) rfl (by decide) (by decide) ?_
              refine ab_aload_n (pc := 241) dX11_files_241 rfl rfl ?_
              refine mo_gr (pc := 242) dX11_files_242 fl_X11_61 rfl rfl ?_
              refine ab_iconst (pc := 245) (v := nI 3) dX11_files_245 (by decide) ?_
              refine mo_ild (pc := 246) dX11_files_246 (by decide) rfl (by decide) (by decide) ?_
              obtain ⟨o88, hD⟩ := hD
              refine ab_stk4 rfl rfl rfl (congrArg Value.int (ab_nat o88)) ?_
              obtain ⟨o89, hD⟩ := hD
              refine mo_invv (N := mX11_begins) (pc := 247) (d' := 6) (av := [_, _, _, _]) dX11_files_247 ml_X11_182 fv_X11_begins (Nat.le_of_ble_eq_true rfl) (by decide) (c_begins _ _ _ _ _ o89) ?_
              refine mo_vr (pc := 250) dX11_files_250 rfl ?_
              first | (rw [Ffiles_11]; (try dsimp only); rw [if_neg c_15, if_neg c_25, if_pos c_36, if_neg c_62, if_neg (c_85 _ (List.mem_of_getElem? (i := 0) rfl)), if_neg (c_85 _ (List.mem_of_getElem? (i := 1) rfl)), if_neg (c_85 _ (List.mem_of_getElem? (i := 2) rfl)), if_neg (c_85 _ (List.mem_of_getElem? (i := 3) rfl)), if_neg (c_85 _ (List.mem_of_getElem? (i := 4) rfl))]; done) | (rw [Ffiles_11]; (try dsimp only); rw [if_neg c_15, if_neg c_25, if_pos c_36, if_neg c_62, if_neg (c_85 _ (List.mem_of_getElem? (i := 0) rfl)), if_neg (c_85 _ (List.mem_of_getElem? (i := 1) rfl)), if_neg (c_85 _ (List.mem_of_getElem? (i := 2) rfl)), if_neg (c_85 _ (List.mem_of_getElem? (i := 3) rfl)), if_neg (c_85 _ (List.mem_of_getElem? (i := 4) rfl))]; rfl)
          · refine mo_vr (pc := 65) dX11_files_65 rfl ?_
            first | (rw [Ffiles_11]; (try dsimp only); rw [if_neg c_15, if_neg c_25, if_pos c_36, if_pos c_62]; done) | (rw [Ffiles_11]; (try dsimp only); rw [if_neg c_15, if_neg c_25, if_pos c_36, if_pos c_62]; rfl)
        · replace hD := hD.2 c_36
          refine ab_aload_n (pc := 39) dX11_files_39 rfl rfl ?_
          refine ab_iconst (pc := 40) (v := nI 2) dX11_files_40 (by decide) ?_
          refine ab_iload_n (pc := 41) dX11_files_41 rfl rfl ?_
          refine ab_iconst (pc := 42) (v := nI 1) dX11_files_42 (by decide) ?_
          obtain ⟨o91, hD⟩ := hD
          refine mo_invr (N := mX11_field) (pc := 43) (d' := 0) (av := [_, _, _]) dX11_files_43 ml_X11_156 fv_X11_field (Nat.le_of_ble_eq_true rfl) (by decide) (c_field _ _ _ _ o91) ?_
          refine ab_if_eq (pc := 46) (tgt := 55) dX11_files_46 (by decide) (fun c_46 => ?_) (fun c_46 => ?_)
          · replace hD := hD.1 c_46
            refine ab_iload_n (pc := 55) dX11_files_55 rfl rfl ?_
            refine ab_aload_n (pc := 56) dX11_files_56 rfl rfl ?_
            refine mo_gr (pc := 57) dX11_files_57 fl_X11_38 rfl rfl ?_
            refine ab_iconst (pc := 60) (v := nI 2) dX11_files_60 (by decide) ?_
            refine mo_ild (pc := 61) dX11_files_61 (by decide) rfl (by decide) (by decide) ?_
            obtain ⟨o92, hD⟩ := hD
            refine ab_nat1 (ab_nat o92) ?_
            obtain ⟨o93, hD⟩ := hD
            obtain ⟨o94, hD⟩ := hD
            refine ab_icmp_neN (pc := 62) (tgt := 66) dX11_files_62 (by decide) o93 o94 (fun c_62 => ?_) (fun c_62 => ?_)
            · replace hD := hD.2 c_62
              refine ab_aload_n (pc := 66) dX11_files_66 rfl rfl ?_
              refine ab_iconst (pc := 67) (v := nI 2) dX11_files_67 (by decide) ?_
              refine ab_iload_n (pc := 68) dX11_files_68 rfl rfl ?_
              obtain ⟨o95, hD⟩ := hD
              refine mo_invv (N := mX11_takeOut) (pc := 69) (d' := 1) (av := [_, _]) dX11_files_69 ml_X11_143 fv_X11_takeOut (Nat.le_of_ble_eq_true rfl) (by decide) (c_takeOut _ _ _ o95) ?_
              refine ab_aload_n (pc := 72) dX11_files_72 rfl rfl ?_
              refine mo_gr (pc := 73) dX11_files_73 fl_X11_61 rfl rfl ?_
              refine ab_iconst (pc := 76) (v := nI 0) dX11_files_76 (by decide) ?_
              refine mo_ild (pc := 77) dX11_files_77 (by decide) rfl (by decide) (by decide) ?_
              refine ab_istore_n (pc := 78) dX11_files_78 rfl (Nat.le_of_ble_eq_true rfl) rfl ?_
              refine ab_aload_n (pc := 79) dX11_files_79 rfl rfl ?_
              refine mo_gr (pc := 80) dX11_files_80 fl_X11_61 rfl rfl ?_
              refine ab_iconst (pc := 83) (v := nI 1) dX11_files_83 (by decide) ?_
              refine mo_ild (pc := 84) dX11_files_84 (by decide) rfl (by decide) (by decide) ?_
              refine ab_lsw (pc := 85) [(0, 136), (22, 137), (30, 171), (31, 202), (42, 149)] 227 dX11_files_85 (by decide +kernel) (by decide +kernel) (ab_c1 (fun c_85 => ?_) (ab_c1 (fun c_85 => ?_) (ab_c1 (fun c_85 => ?_) (ab_c1 (fun c_85 => ?_) (ab_c1 (fun c_85 => ?_) (ab_c0)))))) (fun c_85 => ?_)
              · refine mo_vr (pc := 136) dX11_files_136 rfl ?_
                first | (rw [Ffiles_11]; (try dsimp only); rw [if_neg c_15, if_neg c_25, if_neg c_36, if_pos c_46, if_neg c_62, if_pos c_85]; done) | (rw [Ffiles_11]; (try dsimp only); rw [if_neg c_15, if_neg c_25, if_neg c_36, if_pos c_46, if_neg c_62, if_pos c_85]; rfl)
              · replace hD := hD.2.1 c_85
                refine ab_aload_n (pc := 137) dX11_files_137 rfl rfl ?_
                refine mo_gi (pc := 138) dX11_files_138 fl_X11_166 rfl ?_
                refine ab_if_eq (pc := 141) (tgt := 148) dX11_files_141 (by decide) (fun c_141 => ?_) (fun c_141 => ?_)
                · refine mo_vr (pc := 148) dX11_files_148 rfl ?_
                  first | (rw [Ffiles_11]; (try dsimp only); rw [if_neg c_15, if_neg c_25, if_neg c_36, if_pos c_46, if_neg c_62, if_neg (fun h => absurd (c_85.symm.trans h) (by decide)), if_pos c_85, if_pos c_141]; done) | (rw [Ffiles_11]; (try dsimp only); rw [if_neg c_15, if_neg c_25, if_neg c_36, if_pos c_46, if_neg c_62, if_neg (fun h => absurd (c_85.symm.trans h) (by decide)), if_pos c_85, if_pos c_141]; rfl)
                · replace hD := hD.2 c_141
                  refine ab_aload_n (pc := 144) dX11_files_144 rfl rfl ?_
                  obtain ⟨o97, hD⟩ := hD
                  refine mo_invv (N := mX11_goesOn) (pc := 145) (d' := 5) (av := []) dX11_files_145 ml_X11_169 fv_X11_goesOn (Nat.le_of_ble_eq_true rfl) (by decide) (c_goesOn  _ o97) ?_
                  refine mo_vr (pc := 148) dX11_files_148 rfl ?_
                  first | (rw [Ffiles_11]; (try dsimp only); rw [if_neg c_15, if_neg c_25, if_neg c_36, if_pos c_46, if_neg c_62, if_neg (fun h => absurd (c_85.symm.trans h) (by decide)), if_pos c_85, if_neg c_141]; done) | (rw [Ffiles_11]; (try dsimp only); rw [if_neg c_15, if_neg c_25, if_neg c_36, if_pos c_46, if_neg c_62, if_neg (fun h => absurd (c_85.symm.trans h) (by decide)), if_pos c_85, if_neg c_141]; rfl)
              · replace hD := hD.2.2.1 c_85
                refine ab_aload_n (pc := 171) dX11_files_171 rfl rfl ?_
                refine ab_aload_n (pc := 172) dX11_files_172 rfl rfl ?_
                refine mo_gr (pc := 173) dX11_files_173 fl_X11_61 rfl rfl ?_
                refine ab_iconst (pc := 176) (v := nI 2) dX11_files_176 (by decide) ?_
                refine mo_ild (pc := 177) dX11_files_177 (by decide) rfl (by decide) (by decide) ?_
                refine ab_aload_n (pc := 178) dX11_files_178 rfl rfl ?_
                refine mo_gr (pc := 179) dX11_files_179 fl_X11_61 rfl rfl ?_
                refine ab_iconst (pc := 182) (v := nI 3) dX11_files_182 (by decide) ?_
                refine mo_ild (pc := 183) dX11_files_183 (by decide) rfl (by decide) (by decide) ?_
                obtain ⟨o99, hD⟩ := hD
                obtain ⟨o100, hD⟩ := hD
                refine ab_stk2 (congrArg Value.int (ab_nat o100)) (congrArg Value.int (ab_nat o99)) ?_
                obtain ⟨o101, hD⟩ := hD
                refine mo_invv (N := mX11_copies) (pc := 184) (d' := 0) (av := [_, _]) dX11_files_184 ml_X11_175 fv_X11_copies (Nat.le_of_ble_eq_true rfl) (by decide) (c_copies _ _ _ o101) ?_
                refine ab_aload_n (pc := 187) dX11_files_187 rfl rfl ?_
                refine ab_bipush (pc := 188) (v := nI 32) dX11_files_188 (by decide) ?_
                refine ab_iconst (pc := 190) (v := nI 0) dX11_files_190 (by decide) ?_
                refine ab_iconst (pc := 191) (v := nI 0) dX11_files_191 (by decide) ?_
                obtain ⟨o103, hD⟩ := hD
                refine mo_invv (N := mX11_drafts) (pc := 192) (d' := 0) (av := [_, _, _]) dX11_files_192 ml_X11_152 fv_X11_drafts (Nat.le_of_ble_eq_true rfl) (by decide) (c_drafts _ _ _ _ o103) ?_
                refine ab_aload_n (pc := 195) dX11_files_195 rfl rfl ?_
                refine ab_iconst (pc := 196) (v := nI 2) dX11_files_196 (by decide) ?_
                refine ab_iconst (pc := 197) (v := nI 3) dX11_files_197 (by decide) ?_
                obtain ⟨o105, hD⟩ := hD
                refine mo_invv (N := mX11_sends) (pc := 198) (d' := 3) (av := [_, _]) dX11_files_198 ml_X11_57 fv_X11_sends (Nat.le_of_ble_eq_true rfl) (by decide) (c_sends _ _ _ o105) ?_
                refine mo_vr (pc := 201) dX11_files_201 rfl ?_
                first | (rw [Ffiles_11]; (try dsimp only); rw [if_neg c_15, if_neg c_25, if_neg c_36, if_pos c_46, if_neg c_62, if_neg (fun h => absurd (c_85.symm.trans h) (by decide)), if_neg (fun h => absurd (c_85.symm.trans h) (by decide)), if_pos c_85]; done) | (rw [Ffiles_11]; (try dsimp only); rw [if_neg c_15, if_neg c_25, if_neg c_36, if_pos c_46, if_neg c_62, if_neg (fun h => absurd (c_85.symm.trans h) (by decide)), if_neg (fun h => absurd (c_85.symm.trans h) (by decide)), if_pos c_85]; rfl)
              · replace hD := hD.2.2.2.1 c_85
                refine ab_aload_n (pc := 202) dX11_files_202 rfl rfl ?_
                refine ab_aload_n (pc := 203) dX11_files_203 rfl rfl ?_
                refine mo_gr (pc := 204) dX11_files_204 fl_X11_61 rfl rfl ?_
                refine ab_iconst (pc := 207) (v := nI 2) dX11_files_207 (by decide) ?_
                refine mo_ild (pc := 208) dX11_files_208 (by decide) rfl (by decide) (by decide) ?_
                obtain ⟨o107, hD⟩ := hD
                refine ab_stk1 (congrArg Value.int (ab_nat o107)) ?_
                obtain ⟨o108, hD⟩ := hD
                refine mo_invv (N := mX11_closesAll) (pc := 209) (d' := 0) (av := [_]) dX11_files_209 ml_X11_178 fv_X11_closesAll (Nat.le_of_ble_eq_true rfl) (by decide) (c_closesAll _ _ o108) ?_
                refine ab_aload_n (pc := 212) dX11_files_212 rfl rfl ?_
                refine ab_bipush (pc := 213) (v := nI 32) dX11_files_213 (by decide) ?_
                refine ab_iconst (pc := 215) (v := nI 0) dX11_files_215 (by decide) ?_
                refine ab_iconst (pc := 216) (v := nI 0) dX11_files_216 (by decide) ?_
                obtain ⟨o110, hD⟩ := hD
                refine mo_invv (N := mX11_drafts) (pc := 217) (d' := 0) (av := [_, _, _]) dX11_files_217 ml_X11_152 fv_X11_drafts (Nat.le_of_ble_eq_true rfl) (by decide) (c_drafts _ _ _ _ o110) ?_
                refine ab_aload_n (pc := 220) dX11_files_220 rfl rfl ?_
                refine ab_iconst (pc := 221) (v := nI 2) dX11_files_221 (by decide) ?_
                refine ab_iconst (pc := 222) (v := nI 3) dX11_files_222 (by decide) ?_
                obtain ⟨o112, hD⟩ := hD
                refine mo_invv (N := mX11_sends) (pc := 223) (d' := 3) (av := [_, _]) dX11_files_223 ml_X11_57 fv_X11_sends (Nat.le_of_ble_eq_true rfl) (by decide) (c_sends _ _ _ o112) ?_
                refine mo_vr (pc := 226) dX11_files_226 rfl ?_
                first | (rw [Ffiles_11]; (try dsimp only); rw [if_neg c_15, if_neg c_25, if_neg c_36, if_pos c_46, if_neg c_62, if_neg (fun h => absurd (c_85.symm.trans h) (by decide)), if_neg (fun h => absurd (c_85.symm.trans h) (by decide)), if_neg (fun h => absurd (c_85.symm.trans h) (by decide)), if_pos c_85]; done) | (rw [Ffiles_11]; (try dsimp only); rw [if_neg c_15, if_neg c_25, if_neg c_36, if_pos c_46, if_neg c_62, if_neg (fun h => absurd (c_85.symm.trans h) (by decide)), if_neg (fun h => absurd (c_85.symm.trans h) (by decide)), if_neg (fun h => absurd (c_85.symm.trans h) (by decide)), if_pos c_85]; rfl)
              · replace hD := hD.2.2.2.2.1 c_85
                refine ab_aload_n (pc := 149) dX11_files_149 rfl rfl ?_
                refine ab_aload_n (pc := 150) dX11_files_150 rfl rfl ?_
                refine mo_gr (pc := 151) dX11_files_151 fl_X11_61 rfl rfl ?_
                refine ab_iconst (pc := 154) (v := nI 2) dX11_files_154 (by decide) ?_
                refine mo_ild (pc := 155) dX11_files_155 (by decide) rfl (by decide) (by decide) ?_
                refine mo_pi (pc := 156) dX11_files_156 fl_X11_32 rfl rfl (ab_ok_i _) ?_
                refine ab_aload_n (pc := 159) dX11_files_159 rfl rfl ?_
                refine mo_gi (pc := 160) dX11_files_160 fl_X11_166 rfl ?_
                refine ab_if_eq (pc := 163) (tgt := 170) dX11_files_163 (by decide) (fun c_163 => ?_) (fun c_163 => ?_)
                · refine mo_vr (pc := 170) dX11_files_170 rfl ?_
                  first | (rw [Ffiles_11]; (try dsimp only); rw [if_neg c_15, if_neg c_25, if_neg c_36, if_pos c_46, if_neg c_62, if_neg (fun h => absurd (c_85.symm.trans h) (by decide)), if_neg (fun h => absurd (c_85.symm.trans h) (by decide)), if_neg (fun h => absurd (c_85.symm.trans h) (by decide)), if_neg (fun h => absurd (c_85.symm.trans h) (by decide)), if_pos c_85, if_pos c_163]; done) | (rw [Ffiles_11]; (try dsimp only); rw [if_neg c_15, if_neg c_25, if_neg c_36, if_pos c_46, if_neg c_62, if_neg (fun h => absurd (c_85.symm.trans h) (by decide)), if_neg (fun h => absurd (c_85.symm.trans h) (by decide)), if_neg (fun h => absurd (c_85.symm.trans h) (by decide)), if_neg (fun h => absurd (c_85.symm.trans h) (by decide)), if_pos c_85, if_pos c_163]; rfl)
                · replace hD := hD.2 c_163
                  refine ab_aload_n (pc := 166) dX11_files_166 rfl rfl ?_
                  obtain ⟨o115, hD⟩ := hD
                  refine mo_invv (N := mX11_asksDriver) (pc := 167) (d' := 4) (av := []) dX11_files_167 ml_X11_172 fv_X11_asksDriver (Nat.le_of_ble_eq_true rfl) (by decide) (c_asksDriver  _ o115) ?_
                  refine mo_vr (pc := 170) dX11_files_170 rfl ?_
                  first | (rw [Ffiles_11]; (try dsimp only); rw [if_neg c_15, if_neg c_25, if_neg c_36, if_pos c_46, if_neg c_62, if_neg (fun h => absurd (c_85.symm.trans h) (by decide)), if_neg (fun h => absurd (c_85.symm.trans h) (by decide)), if_neg (fun h => absurd (c_85.symm.trans h) (by decide)), if_neg (fun h => absurd (c_85.symm.trans h) (by decide)), if_pos c_85, if_neg c_163]; done) | (rw [Ffiles_11]; (try dsimp only); rw [if_neg c_15, if_neg c_25, if_neg c_36, if_pos c_46, if_neg c_62, if_neg (fun h => absurd (c_85.symm.trans h) (by decide)), if_neg (fun h => absurd (c_85.symm.trans h) (by decide)), if_neg (fun h => absurd (c_85.symm.trans h) (by decide)), if_neg (fun h => absurd (c_85.symm.trans h) (by decide)), if_pos c_85, if_neg c_163]; rfl)
              · replace hD := hD.2.2.2.2.2 c_85
                refine ab_aload_n (pc := 227) dX11_files_227 rfl rfl ?_
                refine ab_iload_n (pc := 228) dX11_files_228 rfl rfl ?_
                refine ab_aload_n (pc := 229) dX11_files_229 rfl rfl ?_
                refine mo_gr (pc := 230) dX11_files_230 fl_X11_61 rfl rfl ?_
                refine ab_iconst (pc := 233) (v := nI 1) dX11_files_233 (by decide) ?_
                refine mo_ild (pc := 234) dX11_files_234 (by decide) rfl (by decide) (by decide) ?_
                refine ab_aload_n (pc := 235) dX11_files_235 rfl rfl ?_
                refine mo_gr (pc := 236) dX11_files_236 fl_X11_61 rfl rfl ?_
                refine ab_iconst (pc := 239) (v := nI 2) dX11_files_239 (by decide) ?_
                refine mo_ild (pc := 240) dX11_files_240 (by decide) rfl (by decide) (by decide) ?_
                refine ab_aload_n (pc := 241) dX11_files_241 rfl rfl ?_
                refine mo_gr (pc := 242) dX11_files_242 fl_X11_61 rfl rfl ?_
                refine ab_iconst (pc := 245) (v := nI 3) dX11_files_245 (by decide) ?_
                refine mo_ild (pc := 246) dX11_files_246 (by decide) rfl (by decide) (by decide) ?_
                obtain ⟨o117, hD⟩ := hD
                refine ab_stk4 rfl rfl rfl (congrArg Value.int (ab_nat o117)) ?_
                obtain ⟨o118, hD⟩ := hD
                refine mo_invv (N := mX11_begins) (pc := 247) (d' := 6) (av := [_, _, _, _]) dX11_files_247 ml_X11_182 fv_X11_begins (Nat.le_of_ble_eq_true rfl) (by decide) (c_begins _ _ _ _ _ o118) ?_
                refine mo_vr (pc := 250) dX11_files_250 rfl ?_
                first | (rw [Ffiles_11]; (try dsimp only); rw [if_neg c_15, if_neg c_25, if_neg c_36, if_pos c_46, if_neg c_62, if_neg (c_85 _ (List.mem_of_getElem? (i := 0) rfl)), if_neg (c_85 _ (List.mem_of_getElem? (i := 1) rfl)), if_neg (c_85 _ (List.mem_of_getElem? (i := 2) rfl)), if_neg (c_85 _ (List.mem_of_getElem? (i := 3) rfl)), if_neg (c_85 _ (List.mem_of_getElem? (i := 4) rfl))]; done) | (rw [Ffiles_11]; (try dsimp only); rw [if_neg c_15, if_neg c_25, if_neg c_36, if_pos c_46, if_neg c_62, if_neg (c_85 _ (List.mem_of_getElem? (i := 0) rfl)), if_neg (c_85 _ (List.mem_of_getElem? (i := 1) rfl)), if_neg (c_85 _ (List.mem_of_getElem? (i := 2) rfl)), if_neg (c_85 _ (List.mem_of_getElem? (i := 3) rfl)), if_neg (c_85 _ (List.mem_of_getElem? (i := 4) rfl))]; rfl)
            · refine mo_vr (pc := 65) dX11_files_65 rfl ?_
              first | (rw [Ffiles_11]; (try dsimp only); rw [if_neg c_15, if_neg c_25, if_neg c_36, if_pos c_46, if_pos c_62]; done) | (rw [Ffiles_11]; (try dsimp only); rw [if_neg c_15, if_neg c_25, if_neg c_36, if_pos c_46, if_pos c_62]; rfl)
          · replace hD := hD.2 c_46
            refine ab_iinc (pc := 49) dX11_files_49 rfl (ab_inc _) (Nat.le_of_ble_eq_true rfl) rfl ?_
            refine ab_goto (pc := 52) (tgt := 11) dX11_files_52 (by decide) ?_
            refine ab_wk (ls2 := [some _, some _, none]) (And.intro rfl (And.intro rfl trivial)) ?_
            refine mo_eqv ?_ (ih _ _ hD)
            first | (rw [Ffiles_11]; (try dsimp only); rw [if_neg c_15, if_neg c_25, if_neg c_36, if_neg c_46]; done) | (rw [Ffiles_11]; (try dsimp only); rw [if_neg c_15, if_neg c_25, if_neg c_36, if_neg c_46]; rfl)
def Ffiles  (m : mD) : mD :=
  let z2 := FsendsAgain 2 m
  if (z2.1) = 0 then
    Ffiles_11 14 0 z2.2
  else
    z2.2
def Dfiles  (m : mD) : Prop :=
  (DsendsAgain 2 m) ∧
  let z2 := FsendsAgain 2 m
  (((z2.1) = 0) →
    Dfiles_11 14 0 z2.2) ∧
  (¬ ((z2.1) = 0) →
    True)
set_option maxRecDepth 100000 in
set_option maxHeartbeats 4000000 in
theorem c_files {tt : Prop}  (m : mD) (hD : Dfiles  m) : ab_Met mX11_files 7 0 0 tt [.ref (0)] (sM m) (mQv (Ffiles  m)) := by
  refine ab_Met.of rfl (Nat.le_of_ble_eq_true rfl) ?_
  show mV mX11_files 7 tt (mQv (Ffiles  m)) 0 [some (.ref (0)), none, none] [] m
  refine ab_aload_n (pc := 0) dX11_files_0 rfl rfl ?_
  refine ab_iconst (pc := 1) (v := nI 2) dX11_files_1 (by decide) ?_
  obtain ⟨o1, hD⟩ := hD
  refine mo_invi (N := mX11_sendsAgain) (pc := 2) (d' := 4) (av := [_]) dX11_files_2 ml_X11_137 fv_X11_sendsAgain (Nat.le_of_ble_eq_true rfl) (by decide) (c_sendsAgain _ _ o1) ?_
  refine ab_if_eq (pc := 5) (tgt := 9) dX11_files_5 (by decide) (fun c_5 => ?_) (fun c_5 => ?_)
  · replace hD := hD.1 c_5
    refine ab_iconst (pc := 9) (v := nI 0) dX11_files_9 (by decide) ?_
    refine ab_istore_n (pc := 10) dX11_files_10 rfl (Nat.le_of_ble_eq_true rfl) rfl ?_
    refine ab_wk (ls2 := [some _, some _, none]) (And.intro rfl (And.intro rfl trivial)) ?_
    refine mo_eqv ?_ (w_files_11 14 _ _ hD)
    first | (rw [Ffiles]; (try dsimp only); rw [if_pos c_5]; done) | (rw [Ffiles]; (try dsimp only); rw [if_pos c_5]; rfl)
  · refine mo_vr (pc := 8) dX11_files_8 rfl ?_
    first | (rw [Ffiles]; (try dsimp only); rw [if_neg c_5]; done) | (rw [Ffiles]; (try dsimp only); rw [if_neg c_5]; rfl)
