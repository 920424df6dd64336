def Fsteps_20 : Nat → Int32 → Nat → mD → Int32 × mD
  | 0, _, _, m => (0, m)
  | n + 1, w, a2, m =>
    if (w) ≤ (nI (a2)) then
      ((m 0 47), m)
    else
      let z3 := Fturn  m
      Fsteps_20 n w (a2 + 1) z3
def Dsteps_20 : Nat → Int32 → Nat → mD → Prop
  | 0, _, _, _ => False
  | n + 1, w, a2, m =>
    (((w) ≤ (nI (a2))) →
      True) ∧
    (¬ ((w) ≤ (nI (a2))) →
      (Dturn  m) ∧
      let z3 := Fturn  m
      Dsteps_20 n w (a2 + 1) z3)
set_option maxRecDepth 100000 in
set_option maxHeartbeats 4000000 in
theorem w_steps_20 {tt : Prop} : ∀ (n : Nat) (w : Int32) (a2 : Nat) (m : mD) (hD : Dsteps_20 n w a2 m), mV mX11_steps 9 tt (mQi (Fsteps_20 n w a2 m)) 20 [some (.ref (0)), some (.int (w)), some (.int (nI (a2)))] [] m := by
  intro n
  induction n with
  | zero => intros; rename_i hD; exact hD.elim
  | succ n ih =>
    intro w a2 m hD
    refine ab_iload_n (pc := 20) dX11_steps_20 rfl rfl ?_
    refine ab_iload_n (pc := 21) dX11_steps_21 rfl rfl ?_
    refine ab_icmp_ge (pc := 22) (tgt := 35) dX11_steps_22 (by decide) (fun c_22 => ?_) (fun c_22 => ?_)
    · refine ab_aload_n (pc := 35) dX11_steps_35 rfl rfl ?_
      refine mo_gi (pc := 36) dX11_steps_36 fl_X11_263 rfl ?_
      refine mo_ir (pc := 39) dX11_steps_39 rfl rfl ?_
      first | (rw [Fsteps_20]; (try dsimp only); rw [if_pos c_22]; done) | (rw [Fsteps_20]; (try dsimp only); rw [if_pos c_22]; rfl)
    · replace hD := hD.2 c_22
      refine ab_aload_n (pc := 25) dX11_steps_25 rfl rfl ?_
      obtain ⟨o2, hD⟩ := hD
      refine mo_invv (N := mX11_turn) (pc := 26) (d' := 8) (av := []) dX11_steps_26 ml_X11_281 fv_X11_turn (Nat.le_of_ble_eq_true rfl) (by decide) (c_turn  _ o2) ?_
      refine ab_iinc (pc := 29) dX11_steps_29 rfl (ab_inc _) (Nat.le_of_ble_eq_true rfl) rfl ?_
      refine ab_goto (pc := 32) (tgt := 20) dX11_steps_32 (by decide) ?_
      refine mo_eqi ?_ (ih _ _ _ hD)
      first | (rw [Fsteps_20]; (try dsimp only); rw [if_neg c_22]; done) | (rw [Fsteps_20]; (try dsimp only); rw [if_neg c_22]; rfl)
def Fsteps (w : Int32) (m : mD) : Int32 × mD :=
  let m1 := ab_up m 0 0 (nI (0))
  if (w) < 0 then
    ((-1), m1)
  else
    if (w) ≤ (nI (20000)) then
      Fsteps_20 20001 w 0 m1
    else
      ((-1), m1)
def Dsteps (w : Int32) (m : mD) : Prop :=
  let m1 := ab_up m 0 0 (nI (0))
  (((w) < 0) →
    True) ∧
  (¬ ((w) < 0) →
    (((w) ≤ (nI (20000))) →
      Dsteps_20 20001 w 0 m1) ∧
    (¬ ((w) ≤ (nI (20000))) →
      True))
set_option maxRecDepth 100000 in
set_option maxHeartbeats 4000000 in
theorem c_steps {tt : Prop} (w : Int32) (m : mD) (hD : Dsteps w m) : ab_Met mX11_steps 9 0 0 tt [.ref (0), .int (w)] (sM m) (mQi (Fsteps w m)) := by
  refine ab_Met.of rfl (Nat.le_of_ble_eq_true rfl) ?_
  show mV mX11_steps 9 tt (mQi (Fsteps w m)) 0 [some (.ref (0)), some (.int (w)), none] [] m
  refine ab_aload_n (pc := 0) dX11_steps_0 rfl rfl ?_
  refine ab_iconst (pc := 1) (v := nI 0) dX11_steps_1 (by decide) ?_
  refine mo_pi (pc := 2) dX11_steps_2 fl_X11_1 rfl rfl (ab_ok_i _) ?_
  refine ab_iload_n (pc := 5) dX11_steps_5 rfl rfl ?_
  refine ab_if_lt (pc := 6) (tgt := 16) dX11_steps_6 (by decide) (fun c_6 => ?_) (fun c_6 => ?_)
  · refine ab_iconst (pc := 16) (v := -1) dX11_steps_16 (by decide) ?_
    refine mo_ir (pc := 17) dX11_steps_17 rfl rfl ?_
    first | (rw [Fsteps]; (try dsimp only); rw [if_pos c_6]; done) | (rw [Fsteps]; (try dsimp only); rw [if_pos c_6]; rfl)
  · replace hD := hD.2 c_6
    refine ab_iload_n (pc := 9) dX11_steps_9 rfl rfl ?_
    refine ab_sipush (pc := 10) (v := nI 20000) dX11_steps_10 (by decide) ?_
    refine ab_icmp_le (pc := 13) (tgt := 18) dX11_steps_13 (by decide) (fun c_13 => ?_) (fun c_13 => ?_)
    · replace hD := hD.1 c_13
      refine ab_iconst (pc := 18) (v := nI 0) dX11_steps_18 (by decide) ?_
      refine ab_istore_n (pc := 19) dX11_steps_19 rfl (Nat.le_of_ble_eq_true rfl) rfl ?_
      refine mo_eqi ?_ (w_steps_20 20001 _ _ _ hD)
      first | (rw [Fsteps]; (try dsimp only); rw [if_neg c_6, if_pos c_13]; done) | (rw [Fsteps]; (try dsimp only); rw [if_neg c_6, if_pos c_13]; rfl)
    · refine ab_iconst (pc := 16) (v := -1) dX11_steps_16 (by decide) ?_
      refine mo_ir (pc := 17) dX11_steps_17 rfl rfl ?_
      first | (rw [Fsteps]; (try dsimp only); rw [if_neg c_6, if_neg c_13]; done) | (rw [Fsteps]; (try dsimp only); rw [if_neg c_6, if_neg c_13]; rfl)
def Funtil_27 : Nat → Int32 → Int32 → Nat → mD → Int32 × mD
  | 0, _, _, _, m => (0, m)
  | n + 1, u, w, a3, m =>
    if (w) ≤ (nI (a3)) then
      ((nI (a3)), m)
    else
      if (m 8 ((u).toNatClampNeg)) = 0 then
        ((nI (a3)), m)
      else
        let z5 := Fturn  m
        Funtil_27 n u w (a3 + 1) z5
def Duntil_27 : Nat → Int32 → Int32 → Nat → mD → Prop
  | 0, _, _, _, _ => False
  | n + 1, u, w, a3, m =>
    (((w) ≤ (nI (a3))) →
      True) ∧
    (¬ ((w) ≤ (nI (a3))) →
      (¬ (u) < 0) ∧
      (((u).toNatClampNeg) < 12) ∧
      (((m 8 ((u).toNatClampNeg)) = 0) →
        True) ∧
      (¬ ((m 8 ((u).toNatClampNeg)) = 0) →
        (Dturn  m) ∧
        let z5 := Fturn  m
        Duntil_27 n u w (a3 + 1) z5))
set_option maxRecDepth 100000 in
set_option maxHeartbeats 4000000 in
theorem w_until_27 {tt : Prop} : ∀ (n : Nat) (u : Int32) (w : Int32) (a3 : Nat) (m : mD) (hD : Duntil_27 n u w a3 m), mV mX11_until 9 tt (mQi (Funtil_27 n u w a3 m)) 27 [some (.ref (0)), some (.int (u)), some (.int (w)), some (.int (nI (a3)))] [] m := by
  intro n
  induction n with
  | zero => intros; rename_i hD; exact hD.elim
  | succ n ih =>
    intro u w a3 m hD
    refine ab_iload_n (pc := 27) dX11_until_27 rfl rfl ?_
    refine ab_iload_n (pc := 28) dX11_until_28 rfl rfl ?_
    refine ab_icmp_ge (pc := 29) (tgt := 51) dX11_until_29 (by decide) (fun c_29 => ?_) (fun c_29 => ?_)
    · refine ab_iload_n (pc := 51) dX11_until_51 rfl rfl ?_
      refine mo_ir (pc := 52) dX11_until_52 rfl rfl ?_
      first | (rw [Funtil_27]; (try dsimp only); rw [if_pos c_29]; done) | (rw [Funtil_27]; (try dsimp only); rw [if_pos c_29]; rfl)
    · replace hD := hD.2 c_29
      refine ab_aload_n (pc := 32) dX11_until_32 rfl rfl ?_
      refine mo_gr (pc := 33) dX11_until_33 fl_X11_73 rfl rfl ?_
      refine ab_iload_n (pc := 36) dX11_until_36 rfl rfl ?_
      obtain ⟨o2, hD⟩ := hD
      refine ab_nat1 (ab_nat o2) ?_
      obtain ⟨o3, hD⟩ := hD
      refine mo_zld (pc := 37) dX11_until_37 (by decide) rfl o3 (by decide) ?_
      refine ab_if_eq (pc := 38) (tgt := 51) dX11_until_38 (by decide) (fun c_38 => ?_) (fun c_38 => ?_)
      · refine ab_iload_n (pc := 51) dX11_until_51 rfl rfl ?_
        refine mo_ir (pc := 52) dX11_until_52 rfl rfl ?_
        first | (rw [Funtil_27]; (try dsimp only); rw [if_neg c_29, if_pos c_38]; done) | (rw [Funtil_27]; (try dsimp only); rw [if_neg c_29, if_pos c_38]; rfl)
      · replace hD := hD.2 c_38
        refine ab_aload_n (pc := 41) dX11_until_41 rfl rfl ?_
        obtain ⟨o4, hD⟩ := hD
        refine mo_invv (N := mX11_turn) (pc := 42) (d' := 8) (av := []) dX11_until_42 ml_X11_281 fv_X11_turn (Nat.le_of_ble_eq_true rfl) (by decide) (c_turn  _ o4) ?_
        refine ab_iinc (pc := 45) dX11_until_45 rfl (ab_inc _) (Nat.le_of_ble_eq_true rfl) rfl ?_
        refine ab_goto (pc := 48) (tgt := 27) dX11_until_48 (by decide) ?_
        refine mo_eqi ?_ (ih _ _ _ _ hD)
        first | (rw [Funtil_27]; (try dsimp only); rw [if_neg c_29, if_neg c_38]; done) | (rw [Funtil_27]; (try dsimp only); rw [if_neg c_29, if_neg c_38]; rfl)
def Funtil (u : Int32) (w : Int32) (m : mD) : Int32 × mD :=
  let m1 := ab_up m 0 0 (nI (0))
  if (FisUser (u)) = 0 then
    ((-1), m1)
  else
    if (w) < 0 then
      ((-1), m1)
    else
      if (w) ≤ (nI (20000)) then
        Funtil_27 20001 u w 0 m1
      else
        ((-1), m1)
def Duntil (u : Int32) (w : Int32) (m : mD) : Prop :=
  let m1 := ab_up m 0 0 (nI (0))
  (((FisUser (u)) = 0) →
    True) ∧
  (¬ ((FisUser (u)) = 0) →
    (((w) < 0) →
      True) ∧
    (¬ ((w) < 0) →
      (((w) ≤ (nI (20000))) →
        Duntil_27 20001 u w 0 m1) ∧
      (¬ ((w) ≤ (nI (20000))) →
        True)))
set_option maxRecDepth 100000 in
set_option maxHeartbeats 4000000 in
theorem c_until {tt : Prop} (u : Int32) (w : Int32) (m : mD) (hD : Duntil u w m) : ab_Met mX11_until 9 0 0 tt [.ref (0), .int (u), .int (w)] (sM m) (mQi (Funtil u w m)) := by
  refine ab_Met.of rfl (Nat.le_of_ble_eq_true rfl) ?_
  show mV mX11_until 9 tt (mQi (Funtil u w m)) 0 [some (.ref (0)), some (.int (u)), some (.int (w)), none] [] m
  refine ab_aload_n (pc := 0) dX11_until_0 rfl rfl ?_
  refine ab_iconst (pc := 1) (v := nI 0) dX11_until_1 (by decide) ?_
  refine mo_pi (pc := 2) dX11_until_2 fl_X11_1 rfl rfl (ab_ok_i _) ?_
  refine ab_iload_n (pc := 5) dX11_until_5 rfl rfl ?_
  refine mo_invs (N := mX11_isUser) (pc := 6) (d' := 0) (av := [_]) dX11_until_6 ml_X11_11 fs_X11_isUser (Nat.le_of_ble_eq_true rfl) (by decide) (c_isUser _ _ trivial) ?_
  refine ab_if_eq (pc := 9) (tgt := 23) dX11_until_9 (by decide) (fun c_9 => ?_) (fun c_9 => ?_)
  · refine ab_iconst (pc := 23) (v := -1) dX11_until_23 (by decide) ?_
    refine mo_ir (pc := 24) dX11_until_24 rfl rfl ?_
    first | (rw [Funtil]; (try dsimp only); rw [if_pos c_9]; done) | (rw [Funtil]; (try dsimp only); rw [if_pos c_9]; rfl)
  · replace hD := hD.2 c_9
    refine ab_iload_n (pc := 12) dX11_until_12 rfl rfl ?_
    refine ab_if_lt (pc := 13) (tgt := 23) dX11_until_13 (by decide) (fun c_13 => ?_) (fun c_13 => ?_)
    · refine ab_iconst (pc := 23) (v := -1) dX11_until_23 (by decide) ?_
      refine mo_ir (pc := 24) dX11_until_24 rfl rfl ?_
      first | (rw [Funtil]; (try dsimp only); rw [if_neg c_9, if_pos c_13]; done) | (rw [Funtil]; (try dsimp only); rw [if_neg c_9, if_pos c_13]; rfl)
    · replace hD := hD.2 c_13
      refine ab_iload_n (pc := 16) dX11_until_16 rfl rfl ?_
      refine ab_sipush (pc := 17) (v := nI 20000) dX11_until_17 (by decide) ?_
      refine ab_icmp_le (pc := 20) (tgt := 25) dX11_until_20 (by decide) (fun c_20 => ?_) (fun c_20 => ?_)
      · replace hD := hD.1 c_20
        refine ab_iconst (pc := 25) (v := nI 0) dX11_until_25 (by decide) ?_
        refine ab_istore_n (pc := 26) dX11_until_26 rfl (Nat.le_of_ble_eq_true rfl) rfl ?_
        refine mo_eqi ?_ (w_until_27 20001 _ _ _ _ hD)
        first | (rw [Funtil]; (try dsimp only); rw [if_neg c_9, if_neg c_13, if_pos c_20]; done) | (rw [Funtil]; (try dsimp only); rw [if_neg c_9, if_neg c_13, if_pos c_20]; rfl)
      · refine ab_iconst (pc := 23) (v := -1) dX11_until_23 (by decide) ?_
        refine mo_ir (pc := 24) dX11_until_24 rfl rfl ?_
        first | (rw [Funtil]; (try dsimp only); rw [if_neg c_9, if_neg c_13, if_neg c_20]; done) | (rw [Funtil]; (try dsimp only); rw [if_neg c_9, if_neg c_13, if_neg c_20]; rfl)
def Fcall (u : Int32) (k : Int32) (a : Int32) (b : Int32) (m : mD) : Int32 × mD :=
  let m1 := ab_up m 0 0 (nI (0))
  if (FisUser (u)) = 0 then
    ((nI (1)), m1)
  else
    if (m1 7 ((u).toNatClampNeg)) = (nI (1)) then
      if (m1 8 ((u).toNatClampNeg)) = 0 then
        if (k) < (nI (1)) then
          ((nI (3)), m1)
        else
          if (k) ≤ (nI (12)) then
            let z7 := Fdrafts (k) (a) (b) m1
            if (nI (8)) ≤ (k) then
              let z10 := Fsend ((u).toNatClampNeg) 3 (nI (1)) z7
              if (z10.1) = 0 then
                let m13 := ab_up z10.2 8 ((u).toNatClampNeg) (nI (1))
                ((nI (0)), m13)
              else
                ((nI (4)), z10.2)
            else
              let z16 := Fsend ((u).toNatClampNeg) 2 (nI (1)) z7
              if (z16.1) = 0 then
                let m19 := ab_up z16.2 8 ((u).toNatClampNeg) (nI (1))
                ((nI (0)), m19)
              else
                ((nI (4)), z16.2)
          else
            ((nI (3)), m1)
      else
        ((nI (2)), m1)
    else
      ((nI (1)), m1)
def Dcall (u : Int32) (k : Int32) (a : Int32) (b : Int32) (m : mD) : Prop :=
  let m1 := ab_up m 0 0 (nI (0))
  (((FisUser (u)) = 0) →
    True) ∧
  (¬ ((FisUser (u)) = 0) →
    (¬ (u) < 0) ∧
    (((u).toNatClampNeg) < 12) ∧
    (((m1 7 ((u).toNatClampNeg)) = (nI (1))) →
      (¬ (u) < 0) ∧
      (((u).toNatClampNeg) < 12) ∧
      (((m1 8 ((u).toNatClampNeg)) = 0) →
        (((k) < (nI (1))) →
          True) ∧
        (¬ ((k) < (nI (1))) →
          (((k) ≤ (nI (12))) →
            (Ddrafts (k) (a) (b) m1) ∧
            let z7 := Fdrafts (k) (a) (b) m1
            (((nI (8)) ≤ (k)) →
              (¬ (u) < 0) ∧
              (Dsend ((u).toNatClampNeg) 3 (nI (1)) z7) ∧
              let z10 := Fsend ((u).toNatClampNeg) 3 (nI (1)) z7
              (((z10.1) = 0) →
                (¬ (u) < 0) ∧
                (((u).toNatClampNeg) < 12) ∧
                let m13 := ab_up z10.2 8 ((u).toNatClampNeg) (nI (1))
                True) ∧
              (¬ ((z10.1) = 0) →
                True)) ∧
            (¬ ((nI (8)) ≤ (k)) →
              (¬ (u) < 0) ∧
              (Dsend ((u).toNatClampNeg) 2 (nI (1)) z7) ∧
              let z16 := Fsend ((u).toNatClampNeg) 2 (nI (1)) z7
              (((z16.1) = 0) →
                (¬ (u) < 0) ∧
                (((u).toNatClampNeg) < 12) ∧
                let m19 := ab_up z16.2 8 ((u).toNatClampNeg) (nI (1))
                True) ∧
              (¬ ((z16.1) = 0) →
                True))) ∧
          (¬ ((k) ≤ (nI (12))) →
            True))) ∧
      (¬ ((m1 8 ((u).toNatClampNeg)) = 0) →
        True)) ∧
    (¬ ((m1 7 ((u).toNatClampNeg)) = (nI (1))) →
      True))
set_option maxRecDepth 100000 in
set_option maxHeartbeats 4000000 in
theorem c_call {tt : Prop} (u : Int32) (k : Int32) (a : Int32) (b : Int32) (m : mD) (hD : Dcall u k a b m) : ab_Met mX11_call 3 0 0 tt [.ref (0), .int (u), .int (k), .int (a), .int (b)] (sM m) (mQi (Fcall u k a b m)) := by
  refine ab_Met.of rfl (Nat.le_of_ble_eq_true rfl) ?_
  show mV mX11_call 3 tt (mQi (Fcall u k a b m)) 0 [some (.ref (0)), some (.int (u)), some (.int (k)), some (.int (a)), some (.int (b))] [] m
  refine ab_aload_n (pc := 0) dX11_call_0 rfl rfl ?_
  refine ab_iconst (pc := 1) (v := nI 0) dX11_call_1 (by decide) ?_
  refine mo_pi (pc := 2) dX11_call_2 fl_X11_1 rfl rfl (ab_ok_i _) ?_
  refine ab_iload_n (pc := 5) dX11_call_5 rfl rfl ?_
  refine mo_invs (N := mX11_isUser) (pc := 6) (d' := 0) (av := [_]) dX11_call_6 ml_X11_11 fs_X11_isUser (Nat.le_of_ble_eq_true rfl) (by decide) (c_isUser _ _ trivial) ?_
  refine ab_if_eq (pc := 9) (tgt := 22) dX11_call_9 (by decide) (fun c_9 => ?_) (fun c_9 => ?_)
  · refine ab_iconst (pc := 22) (v := nI 1) dX11_call_22 (by decide) ?_
    refine mo_ir (pc := 23) dX11_call_23 rfl rfl ?_
    first | (rw [Fcall]; (try dsimp only); rw [if_pos c_9]; done) | (rw [Fcall]; (try dsimp only); rw [if_pos c_9]; rfl)
  · replace hD := hD.2 c_9
    refine ab_aload_n (pc := 12) dX11_call_12 rfl rfl ?_
    refine mo_gr (pc := 13) dX11_call_13 fl_X11_19 rfl rfl ?_
    refine ab_iload_n (pc := 16) dX11_call_16 rfl rfl ?_
    obtain ⟨o2, hD⟩ := hD
    refine ab_nat1 (ab_nat o2) ?_
    obtain ⟨o3, hD⟩ := hD
    refine mo_ild (pc := 17) dX11_call_17 (by decide) rfl o3 (by decide) ?_
    refine ab_iconst (pc := 18) (v := nI 1) dX11_call_18 (by decide) ?_
    refine ab_icmp_eq (pc := 19) (tgt := 24) dX11_call_19 (by decide) (fun c_19 => ?_) (fun c_19 => ?_)
    · replace hD := hD.1 c_19
      refine ab_aload_n (pc := 24) dX11_call_24 rfl rfl ?_
      refine mo_gr (pc := 25) dX11_call_25 fl_X11_73 rfl rfl ?_
      refine ab_iload_n (pc := 28) dX11_call_28 rfl rfl ?_
      obtain ⟨o4, hD⟩ := hD
      refine ab_nat1 (ab_nat o4) ?_
      obtain ⟨o5, hD⟩ := hD
      refine mo_zld (pc := 29) dX11_call_29 (by decide) rfl o5 (by decide) ?_
      refine ab_if_eq (pc := 30) (tgt := 35) dX11_call_30 (by decide) (fun c_30 => ?_) (fun c_30 => ?_)
      · replace hD := hD.1 c_30
        refine ab_iload_n (pc := 35) dX11_call_35 rfl rfl ?_
        refine ab_iconst (pc := 36) (v := nI 1) dX11_call_36 (by decide) ?_
        refine ab_icmp_lt (pc := 37) (tgt := 46) dX11_call_37 (by decide) (fun c_37 => ?_) (fun c_37 => ?_)
        · refine ab_iconst (pc := 46) (v := nI 3) dX11_call_46 (by decide) ?_
          refine mo_ir (pc := 47) dX11_call_47 rfl rfl ?_
          first | (rw [Fcall]; (try dsimp only); rw [if_neg c_9, if_pos c_19, if_pos c_30, if_pos c_37]; done) | (rw [Fcall]; (try dsimp only); rw [if_neg c_9, if_pos c_19, if_pos c_30, if_pos c_37]; rfl)
        · replace hD := hD.2 c_37
          refine ab_iload_n (pc := 40) dX11_call_40 rfl rfl ?_
          refine ab_bipush (pc := 41) (v := nI 12) dX11_call_41 (by decide) ?_
          refine ab_icmp_le (pc := 43) (tgt := 48) dX11_call_43 (by decide) (fun c_43 => ?_) (fun c_43 => ?_)
          · replace hD := hD.1 c_43
            refine ab_aload_n (pc := 48) dX11_call_48 rfl rfl ?_
            refine ab_iload_n (pc := 49) dX11_call_49 rfl rfl ?_
            refine ab_iload_n (pc := 50) dX11_call_50 rfl rfl ?_
            refine ab_iload (pc := 51) dX11_call_51 rfl ?_
            obtain ⟨o6, hD⟩ := hD
            refine mo_invv (N := mX11_drafts) (pc := 53) (d' := 0) (av := [_, _, _]) dX11_call_53 ml_X11_152 fv_X11_drafts (Nat.le_of_ble_eq_true rfl) (by decide) (c_drafts _ _ _ _ o6) ?_
            refine ab_aload_n (pc := 56) dX11_call_56 rfl rfl ?_
            refine ab_iload_n (pc := 57) dX11_call_57 rfl rfl ?_
            refine ab_iload_n (pc := 58) dX11_call_58 rfl rfl ?_
            refine ab_bipush (pc := 59) (v := nI 8) dX11_call_59 (by decide) ?_
            refine ab_icmp_ge (pc := 61) (tgt := 68) dX11_call_61 (by decide) (fun c_61 => ?_) (fun c_61 => ?_)
            · replace hD := hD.1 c_61
              refine ab_iconst (pc := 68) (v := nI 3) dX11_call_68 (by decide) ?_
              refine ab_iconst (pc := 69) (v := nI 1) dX11_call_69 (by decide) ?_
              obtain ⟨o8, hD⟩ := hD
              refine ab_stk3 rfl rfl (congrArg Value.int (ab_nat o8)) ?_
              obtain ⟨o9, hD⟩ := hD
              refine mo_invi (N := mX11_send) (pc := 70) (d' := 2) (av := [_, _, _]) dX11_call_70 ml_X11_47 fv_X11_send (Nat.le_of_ble_eq_true rfl) (by decide) (c_send _ _ _ _ o9) ?_
              refine ab_if_eq (pc := 73) (tgt := 78) dX11_call_73 (by decide) (fun c_73 => ?_) (fun c_73 => ?_)
              · replace hD := hD.1 c_73
                refine ab_aload_n (pc := 78) dX11_call_78 rfl rfl ?_
                refine mo_gr (pc := 79) dX11_call_79 fl_X11_73 rfl rfl ?_
                refine ab_iload_n (pc := 82) dX11_call_82 rfl rfl ?_
                refine ab_iconst (pc := 83) (v := nI 1) dX11_call_83 (by decide) ?_
                obtain ⟨o11, hD⟩ := hD
                refine ab_nat3 (ab_nat o11) ?_
                obtain ⟨o12, hD⟩ := hD
                refine mo_zst (pc := 84) dX11_call_84 (by decide) rfl o12 (by decide) (Or.inr rfl) ?_
                refine ab_iconst (pc := 85) (v := nI 0) dX11_call_85 (by decide) ?_
                refine mo_ir (pc := 86) dX11_call_86 rfl rfl ?_
                first | (rw [Fcall]; (try dsimp only); rw [if_neg c_9, if_pos c_19, if_pos c_30, if_neg c_37, if_pos c_43, if_pos c_61, if_pos c_73]; done) | (rw [Fcall]; (try dsimp only); rw [if_neg c_9, if_pos c_19, if_pos c_30, if_neg c_37, if_pos c_43, if_pos c_61, if_pos c_73]; rfl)
              · refine ab_iconst (pc := 76) (v := nI 4) dX11_call_76 (by decide) ?_
                refine mo_ir (pc := 77) dX11_call_77 rfl rfl ?_
                first | (rw [Fcall]; (try dsimp only); rw [if_neg c_9, if_pos c_19, if_pos c_30, if_neg c_37, if_pos c_43, if_pos c_61, if_neg c_73]; done) | (rw [Fcall]; (try dsimp only); rw [if_neg c_9, if_pos c_19, if_pos c_30, if_neg c_37, if_pos c_43, if_pos c_61, if_neg c_73]; rfl)
            · replace hD := hD.2 c_61
              refine ab_iconst (pc := 64) (v := nI 2) dX11_call_64 (by decide) ?_
              refine ab_goto (pc := 65) (tgt := 69) dX11_call_65 (by decide) ?_
              refine ab_iconst (pc := 69) (v := nI 1) dX11_call_69 (by decide) ?_
              obtain ⟨o14, hD⟩ := hD
              refine ab_stk3 rfl rfl (congrArg Value.int (ab_nat o14)) ?_
              obtain ⟨o15, hD⟩ := hD
              refine mo_invi (N := mX11_send) (pc := 70) (d' := 2) (av := [_, _, _]) dX11_call_70 ml_X11_47 fv_X11_send (Nat.le_of_ble_eq_true rfl) (by decide) (c_send _ _ _ _ o15) ?_
              refine ab_if_eq (pc := 73) (tgt := 78) dX11_call_73 (by decide) (fun c_73 => ?_) (fun c_73 => ?_)
              · replace hD := hD.1 c_73
                refine ab_aload_n (pc := 78) dX11_call_78 rfl rfl ?_
                refine mo_gr (pc := 79) dX11_call_79 fl_X11_73 rfl rfl ?_
                refine ab_iload_n (pc := 82) dX11_call_82 rfl rfl ?_
                refine ab_iconst (pc := 83) (v := nI 1) dX11_call_83 (by decide) ?_
                obtain ⟨o17, hD⟩ := hD
                refine ab_nat3 (ab_nat o17) ?_
                obtain ⟨o18, hD⟩ := hD
                refine mo_zst (pc := 84) dX11_call_84 (by decide) rfl o18 (by decide) (Or.inr rfl) ?_
                refine ab_iconst (pc := 85) (v := nI 0) dX11_call_85 (by decide) ?_
                refine mo_ir (pc := 86) dX11_call_86 rfl rfl ?_
                first | (rw [Fcall]; (try dsimp only); rw [if_neg c_9, if_pos c_19, if_pos c_30, if_neg c_37, if_pos c_43, if_neg c_61, if_pos c_73]; done) | (rw [Fcall]; (try dsimp only); rw [if_neg c_9, if_pos c_19, if_pos c_30, if_neg c_37, if_pos c_43, if_neg c_61, if_pos c_73]; rfl)
              · refine ab_iconst (pc := 76) (v := nI 4) dX11_call_76 (by decide) ?_
                refine mo_ir (pc := 77) dX11_call_77 rfl rfl ?_
                first | (rw [Fcall]; (try dsimp only); rw [if_neg c_9, if_pos c_19, if_pos c_30, if_neg c_37, if_pos c_43, if_neg c_61, if_neg c_73]; done) | (rw [Fcall]; (try dsimp only); rw [if_neg c_9, if_pos c_19, if_pos c_30, if_neg c_37, if_pos c_43, if_neg c_61, if_neg c_73]; rfl)
          · refine ab_iconst (pc := 46) (v := nI 3) dX11_call_46 (by decide) ?_
            refine mo_ir (pc := 47) dX11_call_47 rfl rfl ?_
            first | (rw [Fcall]; (try dsimp only); rw [if_neg c_9, if_pos c_19, if_pos c_30, if_neg c_37, if_neg c_43]; done) | (rw [Fcall]; (try dsimp only); rw [if_neg c_9, if_pos c_19, if_pos c_30, if_neg c_37, if_neg c_43]; rfl)
      · refine ab_iconst (pc := 33) (v := nI 2) dX11_call_33 (by decide) ?_
        refine mo_ir (pc := 34) dX11_call_34 rfl rfl ?_
        first | (rw [Fcall]; (try dsimp only); rw [if_neg c_9, if_pos c_19, if_neg c_30]; done) | (rw [Fcall]; (try dsimp only); rw [if_neg c_9, if_pos c_19, if_neg c_30]; rfl)
    · refine ab_iconst (pc := 22) (v := nI 1) dX11_call_22 (by decide) ?_
      refine mo_ir (pc := 23) dX11_call_23 rfl rfl ?_
      first | (rw [Fcall]; (try dsimp only); rw [if_neg c_9, if_neg c_19]; done) | (rw [Fcall]; (try dsimp only); rw [if_neg c_9, if_neg c_19]; rfl)
def Fcrash  (m : mD) : Int32 × mD :=
  let m1 := ab_up m 0 0 (nI (0))
  if (m1 0 23) = 0 then
    ((nI (0)), m1)
  else
    let z2 := FcrashesNow  m1
    ((nI (1)), z2)
set_option maxRecDepth 100000 in
set_option maxHeartbeats 4000000 in
theorem c_crash {tt : Prop}  (m : mD) (hD : True) : ab_Met mX11_crash 1 0 0 tt [.ref (0)] (sM m) (mQi (Fcrash  m)) := by
  refine ab_Met.of rfl (Nat.le_of_ble_eq_true rfl) ?_
  show mV mX11_crash 1 tt (mQi (Fcrash  m)) 0 [some (.ref (0))] [] m
  refine ab_aload_n (pc := 0) dX11_crash_0 rfl rfl ?_
  refine ab_iconst (pc := 1) (v := nI 0) dX11_crash_1 (by decide) ?_
  refine mo_pi (pc := 2) dX11_crash_2 fl_X11_1 rfl rfl (ab_ok_i _) ?_
  refine ab_aload_n (pc := 5) dX11_crash_5 rfl rfl ?_
  refine mo_gi (pc := 6) dX11_crash_6 fl_X11_15 rfl ?_
  refine ab_if_ne (pc := 9) (tgt := 14) dX11_crash_9 (by decide) (fun c_9 => ?_) (fun c_9 => ?_)
  · refine ab_aload_n (pc := 14) dX11_crash_14 rfl rfl ?_
    refine mo_invv (N := mX11_crashesNow) (pc := 15) (d' := 0) (av := []) dX11_crash_15 ml_X11_149 fv_X11_crashesNow (Nat.le_of_ble_eq_true rfl) (by decide) (c_crashesNow  _ trivial) ?_
    refine ab_iconst (pc := 18) (v := nI 1) dX11_crash_18 (by decide) ?_
    refine mo_ir (pc := 19) dX11_crash_19 rfl (ab_nb (Or.inr rfl)) ?_
    first | (rw [Fcrash]; (try dsimp only); rw [if_neg c_9]; done) | (rw [Fcrash]; (try dsimp only); rw [if_neg c_9]; rfl)
  · refine ab_iconst (pc := 12) (v := nI 0) dX11_crash_12 (by decide) ?_
    refine mo_ir (pc := 13) dX11_crash_13 rfl (ab_nb (Or.inl rfl)) ?_
    first | (rw [Fcrash]; (try dsimp only); rw [if_pos c_9]; done) | (rw [Fcrash]; (try dsimp only); rw [if_pos c_9]; rfl)
def Fhang  (m : mD) : Int32 × mD :=
  let m1 := ab_up m 0 0 (nI (0))
  if (m1 0 23) = 0 then
    ((nI (0)), m1)
  else
    if (m1 0 24) = 0 then
      let m2 := ab_up m1 0 24 (nI (1))
      ((nI (1)), m2)
    else
      ((nI (0)), m1)
set_option maxRecDepth 100000 in
set_option maxHeartbeats 4000000 in
theorem c_hang {tt : Prop}  (m : mD) (hD : True) : ab_Met mX11_hang 0 0 0 tt [.ref (0)] (sM m) (mQi (Fhang  m)) := by
  refine ab_Met.of rfl (Nat.le_of_ble_eq_true rfl) ?_
  show mV mX11_hang 0 tt (mQi (Fhang  m)) 0 [some (.ref (0))] [] m
  refine ab_aload_n (pc := 0) dX11_hang_0 rfl rfl ?_
  refine ab_iconst (pc := 1) (v := nI 0) dX11_hang_1 (by decide) ?_
  refine mo_pi (pc := 2) dX11_hang_2 fl_X11_1 rfl rfl (ab_ok_i _) ?_
  refine ab_aload_n (pc := 5) dX11_hang_5 rfl rfl ?_
  refine mo_gi (pc := 6) dX11_hang_6 fl_X11_15 rfl ?_
  refine ab_if_eq (pc := 9) (tgt := 19) dX11_hang_9 (by decide) (fun c_9 => ?_) (fun c_9 => ?_)
  · refine ab_iconst (pc := 19) (v := nI 0) dX11_hang_19 (by decide) ?_
    refine mo_ir (pc := 20) dX11_hang_20 rfl (ab_nb (Or.inl rfl)) ?_
    first | (rw [Fhang]; (try dsimp only); rw [if_pos c_9]; done) | (rw [Fhang]; (try dsimp only); rw [if_pos c_9]; rfl)
  · refine ab_aload_n (pc := 12) dX11_hang_12 rfl rfl ?_
    refine mo_gi (pc := 13) dX11_hang_13 fl_X11_119 rfl ?_
    refine ab_if_eq (pc := 16) (tgt := 21) dX11_hang_16 (by decide) (fun c_16 => ?_) (fun c_16 => ?_)
    · refine ab_aload_n (pc := 21) dX11_hang_21 rfl rfl ?_
      refine ab_iconst (pc := 22) (v := nI 1) dX11_hang_22 (by decide) ?_
      refine mo_pi (pc := 23) dX11_hang_23 fl_X11_119 rfl rfl (ab_ok_b (Or.inr rfl)) ?_
      refine ab_iconst (pc := 26) (v := nI 1) dX11_hang_26 (by decide) ?_
      refine mo_ir (pc := 27) dX11_hang_27 rfl (ab_nb (Or.inr rfl)) ?_
      first | (rw [Fhang]; (try dsimp only); rw [if_neg c_9, if_pos c_16]; done) | (rw [Fhang]; (try dsimp only); rw [if_neg c_9, if_pos c_16]; rfl)
    · refine ab_iconst (pc := 19) (v := nI 0) dX11_hang_19 (by decide) ?_
      refine mo_ir (pc := 20) dX11_hang_20 rfl (ab_nb (Or.inl rfl)) ?_
      first | (rw [Fhang]; (try dsimp only); rw [if_neg c_9, if_neg c_16]; done) | (rw [Fhang]; (try dsimp only); rw [if_neg c_9, if_neg c_16]; rfl)
def Fforce (f : Int32) (t : Int32) (m : mD) : Int32 × mD :=
  let m1 := ab_up m 0 0 (nI (0))
  if (FisPart (f)) = 0 then
    ((-1), m1)
  else
    if (FisPart (t)) = 0 then
      ((-1), m1)
    else
      if (Flives ((f).toNatClampNeg) m1) = 0 then
        ((-1), m1)
      else
        let z5 := Fdrafts (nI (0)) (nI (0)) (nI (0)) m1
        let z9 := Fsend ((f).toNatClampNeg) ((t).toNatClampNeg) (nI (0)) z5
        ((z9.1), z9.2)
def Dforce (f : Int32) (t : Int32) (m : mD) : Prop :=
  let m1 := ab_up m 0 0 (nI (0))
  (((FisPart (f)) = 0) →
    True) ∧
  (¬ ((FisPart (f)) = 0) →
    (((FisPart (t)) = 0) →
      True) ∧
    (¬ ((FisPart (t)) = 0) →
      (¬ (f) < 0) ∧
      (Dlives ((f).toNatClampNeg) m1) ∧
      (((Flives ((f).toNatClampNeg) m1) = 0) →
        True) ∧
      (¬ ((Flives ((f).toNatClampNeg) m1) = 0) →
        (Ddrafts (nI (0)) (nI (0)) (nI (0)) m1) ∧
        let z5 := Fdrafts (nI (0)) (nI (0)) (nI (0)) m1
        (¬ (f) < 0) ∧
        (¬ (t) < 0) ∧
        (Dsend ((f).toNatClampNeg) ((t).toNatClampNeg) (nI (0)) z5) ∧
        let z9 := Fsend ((f).toNatClampNeg) ((t).toNatClampNeg) (nI (0)) z5
        True)))
set_option maxRecDepth 100000 in
set_option maxHeartbeats 4000000 in
theorem c_force {tt : Prop} (f : Int32) (t : Int32) (m : mD) (hD : Dforce f t m) : ab_Met mX11_force 3 0 0 tt [.ref (0), .int (f), .int (t)] (sM m) (mQi (Fforce f t m)) := by
  refine ab_Met.of rfl (Nat.le_of_ble_eq_true rfl) ?_
  show mV mX11_force 3 tt (mQi (Fforce f t m)) 0 [some (.ref (0)), some (.int (f)), some (.int (t))] [] m
  refine ab_aload_n (pc := 0) dX11_force_0 rfl rfl ?_
  refine ab_iconst (pc := 1) (v := nI 0) dX11_force_1 (by decide) ?_
  refine mo_pi (pc := 2) dX11_force_2 fl_X11_1 rfl rfl (ab_ok_i _) ?_
  refine ab_iload_n (pc := 5) dX11_force_5 rfl rfl ?_
  refine mo_invs (N := mX11_isPart) (pc := 6) (d' := 0) (av := [_]) dX11_force_6 ml_X11_284 fs_X11_isPart (Nat.le_of_ble_eq_true rfl) (by decide) (c_isPart _ _ trivial) ?_
  refine ab_if_eq (pc := 9) (tgt := 27) dX11_force_9 (by decide) (fun c_9 => ?_) (fun c_9 => ?_)
  · refine ab_iconst (pc := 27) (v := -1) dX11_force_27 (by decide) ?_
    refine mo_ir (pc := 28) dX11_force_28 rfl rfl ?_
    first | (rw [Fforce]; (try dsimp only); rw [if_pos c_9]; done) | (rw [Fforce]; (try dsimp only); rw [if_pos c_9]; rfl)
  · replace hD := hD.2 c_9
    refine ab_iload_n (pc := 12) dX11_force_12 rfl rfl ?_
    refine mo_invs (N := mX11_isPart) (pc := 13) (d' := 0) (av := [_]) dX11_force_13 ml_X11_284 fs_X11_isPart (Nat.le_of_ble_eq_true rfl) (by decide) (c_isPart _ _ trivial) ?_
    refine ab_if_eq (pc := 16) (tgt := 27) dX11_force_16 (by decide) (fun c_16 => ?_) (fun c_16 => ?_)
    · refine ab_iconst (pc := 27) (v := -1) dX11_force_27 (by decide) ?_
      refine mo_ir (pc := 28) dX11_force_28 rfl rfl ?_
      first | (rw [Fforce]; (try dsimp only); rw [if_neg c_9, if_pos c_16]; done) | (rw [Fforce]; (try dsimp only); rw [if_neg c_9, if_pos c_16]; rfl)
    · replace hD := hD.2 c_16
      refine ab_aload_n (pc := 19) dX11_force_19 rfl rfl ?_
      refine ab_iload_n (pc := 20) dX11_force_20 rfl rfl ?_
      obtain ⟨o2, hD⟩ := hD
      refine ab_stk1 (congrArg Value.int (ab_nat o2)) ?_
      obtain ⟨o3, hD⟩ := hD
      refine mo_invr (N := mX11_lives) (pc := 21) (d' := 1) (av := [_]) dX11_force_21 ml_X11_29 fv_X11_lives (Nat.le_of_ble_eq_true rfl) (by decide) (c_lives _ _ o3) ?_
      refine ab_if_ne (pc := 24) (tgt := 29) dX11_force_24 (by decide) (fun c_24 => ?_) (fun c_24 => ?_)
      · replace hD := hD.2 c_24
        refine ab_aload_n (pc := 29) dX11_force_29 rfl rfl ?_
        refine ab_iconst (pc := 30) (v := nI 0) dX11_force_30 (by decide) ?_
        refine ab_iconst (pc := 31) (v := nI 0) dX11_force_31 (by decide) ?_
        refine ab_iconst (pc := 32) (v := nI 0) dX11_force_32 (by decide) ?_
        obtain ⟨o4, hD⟩ := hD
        refine mo_invv (N := mX11_drafts) (pc := 33) (d' := 0) (av := [_, _, _]) dX11_force_33 ml_X11_152 fv_X11_drafts (Nat.le_of_ble_eq_true rfl) (by decide) (c_drafts _ _ _ _ o4) ?_
        refine ab_aload_n (pc := 36) dX11_force_36 rfl rfl ?_
        refine ab_iload_n (pc := 37) dX11_force_37 rfl rfl ?_
        refine ab_iload_n (pc := 38) dX11_force_38 rfl rfl ?_
        refine ab_iconst (pc := 39) (v := nI 0) dX11_force_39 (by decide) ?_
        obtain ⟨o6, hD⟩ := hD
        obtain ⟨o7, hD⟩ := hD
        refine ab_stk3 rfl (congrArg Value.int (ab_nat o7)) (congrArg Value.int (ab_nat o6)) ?_
        obtain ⟨o8, hD⟩ := hD
        refine mo_invi (N := mX11_send) (pc := 40) (d' := 2) (av := [_, _, _]) dX11_force_40 ml_X11_47 fv_X11_send (Nat.le_of_ble_eq_true rfl) (by decide) (c_send _ _ _ _ o8) ?_
        refine mo_ir (pc := 43) dX11_force_43 rfl rfl ?_
        first | (rw [Fforce]; (try dsimp only); rw [if_neg c_9, if_neg c_16, if_neg c_24]; done) | (rw [Fforce]; (try dsimp only); rw [if_neg c_9, if_neg c_16, if_neg c_24]; rfl)
      · refine ab_iconst (pc := 27) (v := -1) dX11_force_27 (by decide) ?_
        refine mo_ir (pc := 28) dX11_force_28 rfl rfl ?_
        first | (rw [Fforce]; (try dsimp only); rw [if_neg c_9, if_neg c_16, if_pos c_24]; done) | (rw [Fforce]; (try dsimp only); rw [if_neg c_9, if_neg c_16, if_pos c_24]; rfl)
def Fuser_40 : Nat → Int32 → Int32 → Int32 → Nat → mD → Int32 × mD
  | 0, _, _, _, _, m => (0, m)
  | n + 1, u, w, a3, a4, m =>
    if 4 ≤ a4 then
      if (w) = 0 then
        ((m 7 ((u).toNatClampNeg)), m)
      else if (w) = 1 then
        if (m 8 ((u).toNatClampNeg)) = 0 then
          ((nI (0)), m)
        else
          ((nI (1)), m)
      else if (w) = 2 then
        ((m 9 ((u).toNatClampNeg)), m)
      else if (w) = 3 then
        ((m 10 ((u).toNatClampNeg)), m)
      else if (w) = 4 then
        ((m 11 ((u).toNatClampNeg)), m)
      else if (w) = 5 then
        ((m 12 ((u).toNatClampNeg)), m)
      else
        ((a3), m)
    else
      if (m 14 ((((nI (4)) * (u)) + (nI (a4))).toNatClampNeg)) < 0 then
        Fuser_40 n u w ((a3) + (nI (0))) (a4 + 1) m
      else
        Fuser_40 n u w ((a3) + (nI (1))) (a4 + 1) m
def Duser_40 : Nat → Int32 → Int32 → Int32 → Nat → mD → Prop
  | 0, _, _, _, _, _ => False
  | n + 1, u, w, a3, a4, m =>
    (a4 < 2147483648) ∧
    ((4 ≤ a4) →
      ((w) = 0 →
        (¬ (u) < 0) ∧
        (((u).toNatClampNeg) < 12) ∧
        True) ∧
      ((w) = 1 →
        (¬ (u) < 0) ∧
        (((u).toNatClampNeg) < 12) ∧
        True) ∧
      ((w) = 2 →
        (¬ (u) < 0) ∧
        (((u).toNatClampNeg) < 12) ∧
        True) ∧
      ((w) = 3 →
        (¬ (u) < 0) ∧
        (((u).toNatClampNeg) < 12) ∧
        True) ∧
      ((w) = 4 →
        (¬ (u) < 0) ∧
        (((u).toNatClampNeg) < 12) ∧
        True) ∧
      ((w) = 5 →
        (¬ (u) < 0) ∧
        (((u).toNatClampNeg) < 12) ∧
        True) ∧
      ((∀ c ∈ ([(0, 112), (1, 119), (2, 134), (3, 141), (4, 148), (5, 155)] : List (Int32 × Nat)), ¬ (w) = c.1) →
        True)) ∧
    (¬ (4 ≤ a4) →
      (¬ (((nI (4)) * (u)) + (nI (a4))) < 0) ∧
      (((((nI (4)) * (u)) + (nI (a4))).toNatClampNeg) < 48) ∧
      (((m 14 ((((nI (4)) * (u)) + (nI (a4))).toNatClampNeg)) < 0) →
        Duser_40 n u w ((a3) + (nI (0))) (a4 + 1) m) ∧
      (¬ ((m 14 ((((nI (4)) * (u)) + (nI (a4))).toNatClampNeg)) < 0) →
        Duser_40 n u w ((a3) + (nI (1))) (a4 + 1) m))
set_option maxRecDepth 100000 in
set_option maxHeartbeats 4000000 in
theorem w_user_40 {tt : Prop} : ∀ (n : Nat) (u : Int32) (w : Int32) (a3 : Int32) (a4 : Nat) (m : mD) (hD : Duser_40 n u w a3 a4 m), mV mX11_user 1 tt (mQi (Fuser_40 n u w a3 a4 m)) 40 [some (.ref (0)), some (.int (u)), some (.int (w)), some (.int (a3)), some (.int (nI (a4)))] [] m := by
  intro n
  induction n with
  | zero => intros; rename_i hD; exact hD.elim
  | succ n ih =>
    intro u w a3 a4 m hD
    refine ab_iload (pc := 40) dX11_user_40 rfl ?_
    refine ab_iconst (pc := 42) (v := nI 4) dX11_user_42 (by decide) ?_
    obtain ⟨o5, hD⟩ := hD
    refine ab_icmp_geN (pc := 43) (tgt := 74) dX11_user_43 (by decide) o5 (by decide) (fun c_43 => ?_) (fun c_43 => ?_)
    · replace hD := hD.1 c_43
      refine ab_iload_n (pc := 74) dX11_user_74 rfl rfl ?_
      refine ab_tsw (pc := 75) [(0, 112), (1, 119), (2, 134), (3, 141), (4, 148), (5, 155)] 162 dX11_user_75 (by decide +kernel) (ab_c1 (fun c_75 => ?_) (ab_c1 (fun c_75 => ?_) (ab_c1 (fun c_75 => ?_) (ab_c1 (fun c_75 => ?_) (ab_c1 (fun c_75 => ?_) (ab_c1 (fun c_75 => ?_) (ab_c0))))))) (fun c_75 => ?_)
      · replace hD := hD.1 c_75
        refine ab_aload_n (pc := 112) dX11_user_112 rfl rfl ?_
        refine mo_gr (pc := 113) dX11_user_113 fl_X11_19 rfl rfl ?_
        refine ab_iload_n (pc := 116) dX11_user_116 rfl rfl ?_
        obtain ⟨o6, hD⟩ := hD
        refine ab_nat1 (ab_nat o6) ?_
        obtain ⟨o7, hD⟩ := hD
        refine mo_ild (pc := 117) dX11_user_117 (by decide) rfl o7 (by decide) ?_
        refine mo_ir (pc := 118) dX11_user_118 rfl rfl ?_
        first | (rw [Fuser_40]; (try dsimp only); rw [if_pos c_43, if_pos c_75]; done) | (rw [Fuser_40]; (try dsimp only); rw [if_pos c_43, if_pos c_75]; rfl)
      · replace hD := hD.2.1 c_75
        refine ab_aload_n (pc := 119) dX11_user_119 rfl rfl ?_
        refine mo_gr (pc := 120) dX11_user_120 fl_X11_73 rfl rfl ?_
        refine ab_iload_n (pc := 123) dX11_user_123 rfl rfl ?_
        obtain ⟨o8, hD⟩ := hD
        refine ab_nat1 (ab_nat o8) ?_
        obtain ⟨o9, hD⟩ := hD
        refine mo_zld (pc := 124) dX11_user_124 (by decide) rfl o9 (by decide) ?_
        refine ab_if_eq (pc := 125) (tgt := 132) dX11_user_125 (by decide) (fun c_125 => ?_) (fun c_125 => ?_)
        · refine ab_iconst (pc := 132) (v := nI 0) dX11_user_132 (by decide) ?_
          refine mo_ir (pc := 133) dX11_user_133 rfl rfl ?_
          first | (rw [Fuser_40]; (try dsimp only); rw [if_pos c_43, if_neg (fun h => absurd (c_75.symm.trans h) (by decide)), if_pos c_75, if_pos c_125]; done) | (rw [Fuser_40]; (try dsimp only); rw [if_pos c_43, if_neg (fun h => absurd (c_75.symm.trans h) (by decide)), if_pos c_75, if_pos c_125]; rfl)
        · refine ab_iconst (pc := 128) (v := nI 1) dX11_user_128 (by decide) ?_
          refine ab_goto (pc := 129) (tgt := 133) dX11_user_129 (by decide) ?_
          refine mo_ir (pc := 133) dX11_user_133 rfl rfl ?_
          first | (rw [Fuser_40]; (try dsimp only); rw [if_pos c_43, if_neg (fun h => absurd (c_75.symm.trans h) (by decide)), if_pos c_75, if_neg c_125]; done) | (rw [Fuser_40]; (try dsimp only); rw [if_pos c_43, if_neg (fun h => absurd (c_75.symm.trans h) (by decide)), if_pos c_75, if_neg c_125]; rfl)
      · replace hD := hD.2.2.1 c_75
        refine ab_aload_n (pc := 134) dX11_user_134 rfl rfl ?_
        refine mo_gr (pc := 135) dX11_user_135 fl_X11_77 rfl rfl ?_
        refine ab_iload_n (pc := 138) dX11_user_138 rfl rfl ?_
        obtain ⟨o10, hD⟩ := hD
        refine ab_nat1 (ab_nat o10) ?_
        obtain ⟨o11, hD⟩ := hD
        refine mo_ild (pc := 139) dX11_user_139 (by decide) rfl o11 (by decide) ?_
        refine mo_ir (pc := 140) dX11_user_140 rfl rfl ?_
        first | (rw [Fuser_40]; (try dsimp only); rw [if_pos c_43, if_neg (fun h => absurd (c_75.symm.trans h) (by decide)), if_neg (fun h => absurd (c_75.symm.trans h) (by decide)), if_pos c_75]; done) | (rw [Fuser_40]; (try dsimp only); rw [if_pos c_43, if_neg (fun h => absurd (c_75.symm.trans h) (by decide)), if_neg (fun h => absurd (c_75.symm.trans h) (by decide)), if_pos c_75]; rfl)
      · replace hD := hD.2.2.2.1 c_75
        refine ab_aload_n (pc := 141) dX11_user_141 rfl rfl ?_
        refine mo_gr (pc := 142) dX11_user_142 fl_X11_80 rfl rfl ?_
        refine ab_iload_n (pc := 145) dX11_user_145 rfl rfl ?_
        obtain ⟨o12, hD⟩ := hD
        refine ab_nat1 (ab_nat o12) ?_
        obtain ⟨o13, hD⟩ := hD
        refine mo_ild (pc := 146) dX11_user_146 (by decide) rfl o13 (by decide) ?_
        refine mo_ir (pc := 147) dX11_user_147 rfl rfl ?_
        first | (rw [Fuser_40]; (try dsimp only); rw [if_pos c_43, if_neg (fun h => absurd (c_75.symm.trans h) (by decide)), if_neg (fun h => absurd (c_75.symm.trans h) (by decide)), if_neg (fun h => absurd (c_75.symm.trans h) (by decide)), if_pos c_75]; done) | (rw [Fuser_40]; (try dsimp only); rw [if_pos c_43, if_neg (fun h => absurd (c_75.symm.trans h) (by decide)), if_neg (fun h => absurd (c_75.symm.trans h) (by decide)), if_neg (fun h => absurd (c_75.symm.trans h) (by decide)), if_pos c_75]; rfl)
      · replace hD := hD.2.2.2.2.1 c_75
        refine ab_aload_n (pc := 148) dX11_user_148 rfl rfl ?_
        refine mo_gr (pc := 149) dX11_user_149 fl_X11_83 rfl rfl ?_
        refine ab_iload_n (pc := 152) dX11_user_152 rfl rfl ?_
        obtain ⟨o14, hD⟩ := hD
        refine ab_nat1 (ab_nat o14) ?_
        obtain ⟨o15, hD⟩ := hD
        refine mo_ild (pc := 153) dX11_user_153 (by decide) rfl o15 (by decide) ?_
        refine mo_ir (pc := 154) dX11_user_154 rfl rfl ?_
        first | (rw [Fuser_40]; (try dsimp only); rw [if_pos c_43, if_neg (fun h => absurd (c_75.symm.trans h) (by decide)), if_neg (fun h => absurd (c_75.symm.trans h) (by decide)), if_neg (fun h => absurd (c_75.symm.trans h) (by decide)), if_neg (fun h => absurd (c_75.symm.trans h) (by decide)), if_pos c_75]; done) | (rw [Fuser_40]; (try dsimp only); rw [if_pos c_43, if_neg (fun h => absurd (c_75.symm.trans h) (by decide)), if_neg (fun h => absurd (c_75.symm.trans h) (by decide)), if_neg (fun h => absurd (c_75.symm.trans h) (by decide)), if_neg (fun h => absurd (c_75.symm.trans h) (by decide)), if_pos c_75]; rfl)
      · replace hD := hD.2.2.2.2.2.1 c_75
        refine ab_aload_n (pc := 155) dX11_user_155 rfl rfl ?_
        refine mo_gr (pc := 156) dX11_user_156 fl_X11_86 rfl rfl ?_
        refine ab_iload_n (pc := 159) dX11_user_159 rfl rfl ?_
        obtain ⟨o16, hD⟩ := hD
        refine ab_nat1 (ab_nat o16) ?_
        obtain ⟨o17, hD⟩ := hD
        refine mo_ild (pc := 160) dX11_user_160 (by decide) rfl o17 (by decide) ?_
        refine mo_ir (pc := 161) dX11_user_161 rfl rfl ?_
        first | (rw [Fuser_40]; (try dsimp only); rw [if_pos c_43, if_neg (fun h => absurd (c_75.symm.trans h) (by decide)), if_neg (fun h => absurd (c_75.symm.trans h) (by decide)), if_neg (fun h => absurd (c_75.symm.trans h) (by decide)), if_neg (fun h => absurd (c_75.symm.trans h) (by decide)), if_neg (fun h => absurd (c_75.symm.trans h) (by decide)), if_pos c_75]; done) | (rw [Fuser_40]; (try dsimp only); rw [if_pos c_43, if_neg (fun h => absurd (c_75.symm.trans h) (by decide)), if_neg (fun h => absurd (c_75.symm.trans h) (by decide)), if_neg (fun h => absurd (c_75.symm.trans h) (by decide)), if_neg (fun h => absurd (c_75.symm.trans h) (by decide)), if_neg (fun h => absurd (c_75.symm.trans h) (by decide)), if_pos c_75]; rfl)
      · refine ab_iload_n (pc := 162) dX11_user_162 rfl rfl ?_
        refine mo_ir (pc := 163) dX11_user_163 rfl rfl ?_
        first | (rw [Fuser_40]; (try dsimp only); rw [if_pos c_43, if_neg (c_75 _ (List.mem_of_getElem? (i := 0) rfl)), if_neg (c_75 _ (List.mem_of_getElem? (i := 1) rfl)), if_neg (c_75 _ (List.mem_of_getElem? (i := 2) rfl)), if_neg (c_75 _ (List.mem_of_getElem? (i := 3) rfl)), if_neg (c_75 _ (List.mem_of_getElem? (i := 4) rfl)), if_neg (c_75 _ (List.mem_of_getElem? (i := 5) rfl))]; done) | (rw [Fuser_40]; (try dsimp only); rw [if_pos c_43, if_neg (c_75 _ (List.mem_of_getElem? (i := 0) rfl)), if_neg (c_75 _ (List.mem_of_getElem? (i := 1) rfl)), if_neg (c_75 _ (List.mem_of_getElem? (i := 2) rfl)), if_neg (c_75 _ (List.mem_of_getElem? (i := 3) rfl)), if_neg (c_75 _ (List.mem_of_getElem? (i := 4) rfl)), if_neg (c_75 _ (List.mem_of_getElem? (i := 5) rfl))]; rfl)
    · replace hD := hD.2 c_43
      refine ab_iload_n (pc := 46) dX11_user_46 rfl rfl ?_
      refine ab_aload_n (pc := 47) dX11_user_47 rfl rfl ?_
      refine mo_gr (pc := 48) dX11_user_48 fl_X11_92 rfl rfl ?_
      refine ab_iconst (pc := 51) (v := nI 4) dX11_user_51 (by decide) ?_
      refine ab_iload_n (pc := 52) dX11_user_52 rfl rfl ?_
      refine ab_imul (pc := 53) dX11_user_53 ?_
      refine ab_iload (pc := 54) dX11_user_54 rfl ?_
      refine ab_iadd (pc := 56) dX11_user_56 ?_
      obtain ⟨o18, hD⟩ := hD
      refine ab_nat1 (ab_nat o18) ?_
      obtain ⟨o19, hD⟩ := hD
      refine mo_ild (pc := 57) dX11_user_57 (by decide) rfl o19 (by decide) ?_
      refine ab_if_lt (pc := 58) (tgt := 65) dX11_user_58 (by decide) (fun c_58 => ?_) (fun c_58 => ?_)
      · replace hD := hD.1 c_58
        refine ab_iconst (pc := 65) (v := nI 0) dX11_user_65 (by decide) ?_
        refine ab_iadd (pc := 66) dX11_user_66 ?_
        refine ab_istore_n (pc := 67) dX11_user_67 rfl (Nat.le_of_ble_eq_true rfl) rfl ?_
        refine ab_iinc (pc := 68) dX11_user_68 rfl (ab_inc _) (Nat.le_of_ble_eq_true rfl) rfl ?_
        refine ab_goto (pc := 71) (tgt := 40) dX11_user_71 (by decide) ?_
        refine mo_eqi ?_ (ih _ _ _ _ _ hD)
        first | (rw [Fuser_40]; (try dsimp only); rw [if_neg c_43, if_pos c_58]; done) | (rw [Fuser_40]; (try dsimp only); rw [if_neg c_43, if_pos c_58]; rfl)
      · replace hD := hD.2 c_58
        refine ab_iconst (pc := 61) (v := nI 1) dX11_user_61 (by decide) ?_
        refine ab_goto (pc := 62) (tgt := 66) dX11_user_62 (by decide) ?_
        refine ab_iadd (pc := 66) dX11_user_66 ?_
        refine ab_istore_n (pc := 67) dX11_user_67 rfl (Nat.le_of_ble_eq_true rfl) rfl ?_
        refine ab_iinc (pc := 68) dX11_user_68 rfl (ab_inc _) (Nat.le_of_ble_eq_true rfl) rfl ?_
        refine ab_goto (pc := 71) (tgt := 40) dX11_user_71 (by decide) ?_
        refine mo_eqi ?_ (ih _ _ _ _ _ hD)
        first | (rw [Fuser_40]; (try dsimp only); rw [if_neg c_43, if_neg c_58]; done) | (rw [Fuser_40]; (try dsimp only); rw [if_neg c_43, if_neg c_58]; rfl)
def Fuser (u : Int32) (w : Int32) (m : mD) : Int32 × mD :=
  if (FisUser (u)) = 0 then
    let m1 := ab_up m 0 0 (nI (1))
    if (m1 0 0) ≤ 0 then
      Fuser_40 5 u w (nI (0)) 0 m1
    else
      ((nI (0)), m1)
  else
    if (w) < 0 then
      let m2 := ab_up m 0 0 (nI (1))
      if (m2 0 0) ≤ 0 then
        Fuser_40 5 u w (nI (0)) 0 m2
      else
        ((nI (0)), m2)
    else
      if (nI (6)) < (w) then
        let m3 := ab_up m 0 0 (nI (1))
        if (m3 0 0) ≤ 0 then
          Fuser_40 5 u w (nI (0)) 0 m3
        else
          ((nI (0)), m3)
      else
        let m4 := ab_up m 0 0 (nI (0))
        if (m4 0 0) ≤ 0 then
          Fuser_40 5 u w (nI (0)) 0 m4
        else
          ((nI (0)), m4)
def Duser (u : Int32) (w : Int32) (m : mD) : Prop :=
  (((FisUser (u)) = 0) →
    let m1 := ab_up m 0 0 (nI (1))
    (((m1 0 0) ≤ 0) →
      Duser_40 5 u w (nI (0)) 0 m1) ∧
    (¬ ((m1 0 0) ≤ 0) →
      True)) ∧
  (¬ ((FisUser (u)) = 0) →
    (((w) < 0) →
      let m2 := ab_up m 0 0 (nI (1))
      (((m2 0 0) ≤ 0) →
        Duser_40 5 u w (nI (0)) 0 m2) ∧
      (¬ ((m2 0 0) ≤ 0) →
        True)) ∧
    (¬ ((w) < 0) →
      (((nI (6)) < (w)) →
        let m3 := ab_up m 0 0 (nI (1))
        (((m3 0 0) ≤ 0) →
          Duser_40 5 u w (nI (0)) 0 m3) ∧
        (¬ ((m3 0 0) ≤ 0) →
          True)) ∧
      (¬ ((nI (6)) < (w)) →
        let m4 := ab_up m 0 0 (nI (0))
        (((m4 0 0) ≤ 0) →
          Duser_40 5 u w (nI (0)) 0 m4) ∧
        (¬ ((m4 0 0) ≤ 0) →
          True))))
set_option maxRecDepth 100000 in
set_option maxHeartbeats 4000000 in
theorem c_user {tt : Prop} (u : Int32) (w : Int32) (m : mD) (hD : Duser u w m) : ab_Met mX11_user 1 0 0 tt [.ref (0), .int (u), .int (w)] (sM m) (mQi (Fuser u w m)) := by
  refine ab_Met.of rfl (Nat.le_of_ble_eq_true rfl) ?_
  show mV mX11_user 1 tt (mQi (Fuser u w m)) 0 [some (.ref (0)), some (.int (u)), some (.int (w)), none, none] [] m
  refine ab_aload_n (pc := 0) dX11_user_0 rfl rfl ?_
  refine ab_iload_n (pc := 1) dX11_user_1 rfl rfl ?_
  refine mo_invs (N := mX11_isUser) (pc := 2) (d' := 0) (av := [_]) dX11_user_2 ml_X11_11 fs_X11_isUser (Nat.le_of_ble_eq_true rfl) (by decide) (c_isUser _ _ trivial) ?_
  refine ab_if_eq (pc := 5) (tgt := 22) dX11_user_5 (by decide) (fun c_5 => ?_) (fun c_5 => ?_)
  · replace hD := hD.1 c_5
    refine ab_iconst (pc := 22) (v := nI 1) dX11_user_22 (by decide) ?_
    refine mo_pi (pc := 23) dX11_user_23 fl_X11_1 rfl rfl (ab_ok_i _) ?_
    refine ab_aload_n (pc := 26) dX11_user_26 rfl rfl ?_
    refine mo_gi (pc := 27) dX11_user_27 fl_X11_1 rfl ?_
    refine ab_if_le (pc := 30) (tgt := 35) dX11_user_30 (by decide) (fun c_30 => ?_) (fun c_30 => ?_)
    · replace hD := hD.1 c_30
      refine ab_iconst (pc := 35) (v := nI 0) dX11_user_35 (by decide) ?_
      refine ab_istore_n (pc := 36) dX11_user_36 rfl (Nat.le_of_ble_eq_true rfl) rfl ?_
      refine ab_iconst (pc := 37) (v := nI 0) dX11_user_37 (by decide) ?_
      refine ab_istore (pc := 38) dX11_user_38 (Nat.le_of_ble_eq_true rfl) rfl ?_
      refine mo_eqi ?_ (w_user_40 5 _ _ _ _ _ hD)
      first | (rw [Fuser]; (try dsimp only); rw [if_pos c_5, if_pos c_30]; done) | (rw [Fuser]; (try dsimp only); rw [if_pos c_5, if_pos c_30]; rfl)
    · refine ab_iconst (pc := 33) (v := nI 0) dX11_user_33 (by decide) ?_
      refine mo_ir (pc := 34) dX11_user_34 rfl rfl ?_
      first | (rw [Fuser]; (try dsimp only); rw [if_pos c_5, if_neg c_30]; done) | (rw [Fuser]; (try dsimp only); rw [if_pos c_5, if_neg c_30]; rfl)
  · replace hD := hD.2 c_5
    refine ab_iload_n (pc := 8) dX11_user_8 rfl rfl ?_
    refine ab_if_lt (pc := 9) (tgt := 22) dX11_user_9 (by decide) (fun c_9 => ?_) (fun c_9 => ?_)
    · replace hD := hD.1 c_9
      refine ab_iconst (pc := 22) (v := nI 1) dX11_user_22 (by decide) ?_
      refine mo_pi (pc := 23) dX11_user_23 fl_X11_1 rfl rfl (ab_ok_i _) ?_
      refine ab_aload_n (pc := 26) dX11_user_26 rfl rfl ?_
      refine mo_gi (pc := 27) dX11_user_27 fl_X11_1 rfl ?_
      refine ab_if_le (pc := 30) (tgt := 35) dX11_user_30 (by decide) (fun c_30 => ?_) (fun c_30 => ?_)
      · replace hD := hD.1 c_30
        refine ab_iconst (pc := 35) (v := nI 0) dX11_user_35 (by decide) ?_
        refine ab_istore_n (pc := 36) dX11_user_36 rfl (Nat.le_of_ble_eq_true rfl) rfl ?_
        refine ab_iconst (pc := 37) (v := nI 0) dX11_user_37 (by decide) ?_
        refine ab_istore (pc := 38) dX11_user_38 (Nat.le_of_ble_eq_true rfl) rfl ?_
        refine mo_eqi ?_ (w_user_40 5 _ _ _ _ _ hD)
        first | (rw [Fuser]; (try dsimp only); rw [if_neg c_5, if_pos c_9, if_pos c_30]; done) | (rw [Fuser]; (try dsimp only); rw [if_neg c_5, if_pos c_9, if_pos c_30]; rfl)
      · refine ab_iconst (pc := 33) (v := nI 0) dX11_user_33 (by decide) ?_
        refine mo_ir (pc := 34) dX11_user_34 rfl rfl ?_
        first | (rw [Fuser]; (try dsimp only); rw [if_neg c_5, if_pos c_9, if_neg c_30]; done) | (rw [Fuser]; (try dsimp only); rw [if_neg c_5, if_pos c_9, if_neg c_30]; rfl)
    · replace hD := hD.2 c_9
      refine ab_iload_n (pc := 12) dX11_user_12 rfl rfl ?_
      refine ab_bipush (pc := 13) (v := nI 6) dX11_user_13 (by decide) ?_
      refine ab_icmp_gt (pc := 15) (tgt := 22) dX11_user_15 (by decide) (fun c_15 => ?_) (fun c_15 => ?_)
      · replace hD := hD.1 c_15
        refine ab_iconst (pc := 22) (v := nI 1) dX11_user_22 (by decide) ?_
        refine mo_pi (pc := 23) dX11_user_23 fl_X11_1 rfl rfl (ab_ok_i _) ?_
        refine ab_aload_n (pc := 26) dX11_user_26 rfl rfl ?_
        refine mo_gi (pc := 27) dX11_user_27 fl_X11_1 rfl ?_
        refine ab_if_le (pc := 30) (tgt := 35) dX11_user_30 (by decide) (fun c_30 => ?_) (fun c_30 => ?_)
        · replace hD := hD.1 c_30
          refine ab_iconst (pc := 35) (v := nI 0) dX11_user_35 (by decide) ?_
          refine ab_istore_n (pc := 36) dX11_user_36 rfl (Nat.le_of_ble_eq_true rfl) rfl ?_
          refine ab_iconst (pc := 37) (v := nI 0) dX11_user_37 (by decide) ?_
          refine ab_istore (pc := 38) dX11_user_38 (Nat.le_of_ble_eq_true rfl) rfl ?_
          refine mo_eqi ?_ (w_user_40 5 _ _ _ _ _ hD)
          first | (rw [Fuser]; (try dsimp only); rw [if_neg c_5, if_neg c_9, if_pos c_15, if_pos c_30]; done) | (rw [Fuser]; (try dsimp only); rw [if_neg c_5, if_neg c_9, if_pos c_15, if_pos c_30]; rfl)
        · refine ab_iconst (pc := 33) (v := nI 0) dX11_user_33 (by decide) ?_
          refine mo_ir (pc := 34) dX11_user_34 rfl rfl ?_
          first | (rw [Fuser]; (try dsimp only); rw [if_neg c_5, if_neg c_9, if_pos c_15, if_neg c_30]; done) | (rw [Fuser]; (try dsimp only); rw [if_neg c_5, if_neg c_9, if_pos c_15, if_neg c_30]; rfl)
      · replace hD := hD.2 c_15
        refine ab_iconst (pc := 18) (v := nI 0) dX11_user_18 (by decide) ?_
        refine ab_goto (pc := 19) (tgt := 23) dX11_user_19 (by decide) ?_
        refine mo_pi (pc := 23) dX11_user_23 fl_X11_1 rfl rfl (ab_ok_i _) ?_
        refine ab_aload_n (pc := 26) dX11_user_26 rfl rfl ?_
        refine mo_gi (pc := 27) dX11_user_27 fl_X11_1 rfl ?_
        refine ab_if_le (pc := 30) (tgt := 35) dX11_user_30 (by decide) (fun c_30 => ?_) (fun c_30 => ?_)
        · replace hD := hD.1 c_30
          refine ab_iconst (pc := 35) (v := nI 0) dX11_user_35 (by decide) ?_
          refine ab_istore_n (pc := 36) dX11_user_36 rfl (Nat.le_of_ble_eq_true rfl) rfl ?_
          refine ab_iconst (pc := 37) (v := nI 0) dX11_user_37 (by decide) ?_
          refine ab_istore (pc := 38) dX11_user_38 (Nat.le_of_ble_eq_true rfl) rfl ?_
          refine mo_eqi ?_ (w_user_40 5 _ _ _ _ _ hD)
          first | (rw [Fuser]; (try dsimp only); rw [if_neg c_5, if_neg c_9, if_neg c_15, if_pos c_30]; done) | (rw [Fuser]; (try dsimp only); rw [if_neg c_5, if_neg c_9, if_neg c_15, if_pos c_30]; rfl)
        · refine ab_iconst (pc := 33) (v := nI 0) dX11_user_33 (by decide) ?_
          refine mo_ir (pc := 34) dX11_user_34 rfl rfl ?_
          first | (rw [Fuser]; (try dsimp only); rw [if_neg c_5, if_neg c_9, if_neg c_15, if_neg c_30]; done) | (rw [Fuser]; (try dsimp only); rw [if_neg c_5, if_neg c_9, if_neg c_15, if_neg c_30]; rfl)
def Fdescriptor (u : Int32) (d : Int32) (w : Int32) (m : mD) : Int32 × mD :=
  let m1 := ab_up m 0 0 (nI (0))
  if (FisUser (u)) = 0 then
    ((-1), m1)
  else
    if (d) < 0 then
      ((-1), m1)
    else
      if (nI (3)) < (d) then
        ((-1), m1)
      else
        if 0 ≤ (m1 14 ((((nI (4)) * (u)) + (d)).toNatClampNeg)) then
          if (w) = 0 then
            ((m1 14 ((((nI (4)) * (u)) + (d)).toNatClampNeg)), m1)
          else
            if (w) = (nI (1)) then
              ((m1 15 ((((nI (4)) * (u)) + (d)).toNatClampNeg)), m1)
            else
              ((-1), m1)
        else
          ((-1), m1)
def Ddescriptor (u : Int32) (d : Int32) (w : Int32) (m : mD) : Prop :=
  let m1 := ab_up m 0 0 (nI (0))
  (((FisUser (u)) = 0) →
    True) ∧
  (¬ ((FisUser (u)) = 0) →
    (((d) < 0) →
      True) ∧
    (¬ ((d) < 0) →
      (((nI (3)) < (d)) →
        True) ∧
      (¬ ((nI (3)) < (d)) →
        (¬ (((nI (4)) * (u)) + (d)) < 0) ∧
        (((((nI (4)) * (u)) + (d)).toNatClampNeg) < 48) ∧
        ((0 ≤ (m1 14 ((((nI (4)) * (u)) + (d)).toNatClampNeg))) →
          (((w) = 0) →
            (¬ (((nI (4)) * (u)) + (d)) < 0) ∧
            (((((nI (4)) * (u)) + (d)).toNatClampNeg) < 48) ∧
            True) ∧
          (¬ ((w) = 0) →
            (((w) = (nI (1))) →
              (¬ (((nI (4)) * (u)) + (d)) < 0) ∧
              (((((nI (4)) * (u)) + (d)).toNatClampNeg) < 48) ∧
              True) ∧
            (¬ ((w) = (nI (1))) →
              True))) ∧
        (¬ (0 ≤ (m1 14 ((((nI (4)) * (u)) + (d)).toNatClampNeg))) →
          True))))
set_option maxRecDepth 100000 in
set_option maxHeartbeats 4000000 in
theorem c_descriptor {tt : Prop} (u : Int32) (d : Int32) (w : Int32) (m : mD) (hD : Ddescriptor u d w m) : ab_Met mX11_descriptor 1 0 0 tt [.ref (0), .int (u), .int (d), .int (w)] (sM m) (mQi (Fdescriptor u d w m)) := by
  refine ab_Met.of rfl (Nat.le_of_ble_eq_true rfl) ?_
  show mV mX11_descriptor 1 tt (mQi (Fdescriptor u d w m)) 0 [some (.ref (0)), some (.int (u)), some (.int (d)), some (.int (w))] [] m
  refine ab_aload_n (pc := 0) dX11_descriptor_0 rfl rfl ?_
  refine ab_iconst (pc := 1) (v := nI 0) dX11_descriptor_1 (by decide) ?_
  refine mo_pi (pc := 2) dX11_descriptor_2 fl_X11_1 rfl rfl (ab_ok_i _) ?_
  refine ab_iload_n (pc := 5) dX11_descriptor_5 rfl rfl ?_
  refine mo_invs (N := mX11_isUser) (pc := 6) (d' := 0) (av := [_]) dX11_descriptor_6 ml_X11_11 fs_X11_isUser (Nat.le_of_ble_eq_true rfl) (by decide) (c_isUser _ _ trivial) ?_
  refine ab_if_eq (pc := 9) (tgt := 34) dX11_descriptor_9 (by decide) (fun c_9 => ?_) (fun c_9 => ?_)
  · refine ab_iconst (pc := 34) (v := -1) dX11_descriptor_34 (by decide) ?_
    refine mo_ir (pc := 35) dX11_descriptor_35 rfl rfl ?_
    first | (rw [Fdescriptor]; (try dsimp only); rw [if_pos c_9]; done) | (rw [Fdescriptor]; (try dsimp only); rw [if_pos c_9]; rfl)
  · replace hD := hD.2 c_9
    refine ab_iload_n (pc := 12) dX11_descriptor_12 rfl rfl ?_
    refine ab_if_lt (pc := 13) (tgt := 34) dX11_descriptor_13 (by decide) (fun c_13 => ?_) (fun c_13 => ?_)
    · refine ab_iconst (pc := 34) (v := -1) dX11_descriptor_34 (by decide) ?_
      refine mo_ir (pc := 35) dX11_descriptor_35 rfl rfl ?_
      first | (rw [Fdescriptor]; (try dsimp only); rw [if_neg c_9, if_pos c_13]; done) | (rw [Fdescriptor]; (try dsimp only); rw [if_neg c_9, if_pos c_13]; rfl)
    · replace hD := hD.2 c_13
      refine ab_iload_n (pc := 16) dX11_descriptor_16 rfl rfl ?_
      refine ab_iconst (pc := 17) (v := nI 3) dX11_descriptor_17 (by decide) ?_
      refine ab_icmp_gt (pc := 18) (tgt := 34) dX11_descriptor_18 (by decide) (fun c_18 => ?_) (fun c_18 => ?_)
      · refine ab_iconst (pc := 34) (v := -1) dX11_descriptor_34 (by decide) ?_
        refine mo_ir (pc := 35) dX11_descriptor_35 rfl rfl ?_
        first | (rw [Fdescriptor]; (try dsimp only); rw [if_neg c_9, if_neg c_13, if_pos c_18]; done) | (rw [Fdescriptor]; (try dsimp only); rw [if_neg c_9, if_neg c_13, if_pos c_18]; rfl)
      · replace hD := hD.2 c_18
        refine ab_aload_n (pc := 21) dX11_descriptor_21 rfl rfl ?_
        refine mo_gr (pc := 22) dX11_descriptor_22 fl_X11_92 rfl rfl ?_
        refine ab_iconst (pc := 25) (v := nI 4) dX11_descriptor_25 (by decide) ?_
        refine ab_iload_n (pc := 26) dX11_descriptor_26 rfl rfl ?_
        refine ab_imul (pc := 27) dX11_descriptor_27 ?_
        refine ab_iload_n (pc := 28) dX11_descriptor_28 rfl rfl ?_
        refine ab_iadd (pc := 29) dX11_descriptor_29 ?_
        obtain ⟨o2, hD⟩ := hD
        refine ab_nat1 (ab_nat o2) ?_
        obtain ⟨o3, hD⟩ := hD
        refine mo_ild (pc := 30) dX11_descriptor_30 (by decide) rfl o3 (by decide) ?_
        refine ab_if_ge (pc := 31) (tgt := 36) dX11_descriptor_31 (by decide) (fun c_31 => ?_) (fun c_31 => ?_)
        · replace hD := hD.1 c_31
          refine ab_iload_n (pc := 36) dX11_descriptor_36 rfl rfl ?_
          refine ab_if_ne (pc := 37) (tgt := 53) dX11_descriptor_37 (by decide) (fun c_37 => ?_) (fun c_37 => ?_)
          · replace hD := hD.2 c_37
            refine ab_iload_n (pc := 53) dX11_descriptor_53 rfl rfl ?_
            refine ab_iconst (pc := 54) (v := nI 1) dX11_descriptor_54 (by decide) ?_
            refine ab_icmp_ne (pc := 55) (tgt := 71) dX11_descriptor_55 (by decide) (fun c_55 => ?_) (fun c_55 => ?_)
            · refine ab_iconst (pc := 71) (v := -1) dX11_descriptor_71 (by decide) ?_
              refine mo_ir (pc := 72) dX11_descriptor_72 rfl rfl ?_
              first | (rw [Fdescriptor]; (try dsimp only); rw [if_neg c_9, if_neg c_13, if_neg c_18, if_pos c_31, if_neg c_37, if_neg c_55]; done) | (rw [Fdescriptor]; (try dsimp only); rw [if_neg c_9, if_neg c_13, if_neg c_18, if_pos c_31, if_neg c_37, if_neg c_55]; rfl)
            · replace hD := hD.1 c_55
              refine ab_aload_n (pc := 58) dX11_descriptor_58 rfl rfl ?_
              refine mo_gr (pc := 59) dX11_descriptor_59 fl_X11_95 rfl rfl ?_
              refine ab_iconst (pc := 62) (v := nI 4) dX11_descriptor_62 (by decide) ?_
              refine ab_iload_n (pc := 63) dX11_descriptor_63 rfl rfl ?_
              refine ab_imul (pc := 64) dX11_descriptor_64 ?_
              refine ab_iload_n (pc := 65) dX11_descriptor_65 rfl rfl ?_
              refine ab_iadd (pc := 66) dX11_descriptor_66 ?_
              obtain ⟨o4, hD⟩ := hD
              refine ab_nat1 (ab_nat o4) ?_
              obtain ⟨o5, hD⟩ := hD
              refine mo_ild (pc := 67) dX11_descriptor_67 (by decide) rfl o5 (by decide) ?_
              refine ab_goto (pc := 68) (tgt := 72) dX11_descriptor_68 (by decide) ?_
              refine mo_ir (pc := 72) dX11_descriptor_72 rfl rfl ?_
              first | (rw [Fdescriptor]; (try dsimp only); rw [if_neg c_9, if_neg c_13, if_neg c_18, if_pos c_31, if_neg c_37, if_pos c_55]; done) | (rw [Fdescriptor]; (try dsimp only); rw [if_neg c_9, if_neg c_13, if_neg c_18, if_pos c_31, if_neg c_37, if_pos c_55]; rfl)
          · replace hD := hD.1 c_37
            refine ab_aload_n (pc := 40) dX11_descriptor_40 rfl rfl ?_
            refine mo_gr (pc := 41) dX11_descriptor_41 fl_X11_92 rfl rfl ?_
            refine ab_iconst (pc := 44) (v := nI 4) dX11_descriptor_44 (by decide) ?_
            refine ab_iload_n (pc := 45) dX11_descriptor_45 rfl rfl ?_
            refine ab_imul (pc := 46) dX11_descriptor_46 ?_
            refine ab_iload_n (pc := 47) dX11_descriptor_47 rfl rfl ?_
            refine ab_iadd (pc := 48) dX11_descriptor_48 ?_
            obtain ⟨o6, hD⟩ := hD
            refine ab_nat1 (ab_nat o6) ?_
            obtain ⟨o7, hD⟩ := hD
            refine mo_ild (pc := 49) dX11_descriptor_49 (by decide) rfl o7 (by decide) ?_
            refine ab_goto (pc := 50) (tgt := 72) dX11_descriptor_50 (by decide) ?_
            refine mo_ir (pc := 72) dX11_descriptor_72 rfl rfl ?_
            first | (rw [Fdescriptor]; (try dsimp only); rw [if_neg c_9, if_neg c_13, if_neg c_18, if_pos c_31, if_pos c_37]; done) | (rw [Fdescriptor]; (try dsimp only); rw [if_neg c_9, if_neg c_13, if_neg c_18, if_pos c_31, if_pos c_37]; rfl)
        · refine ab_iconst (pc := 34) (v := -1) dX11_descriptor_34 (by decide) ?_
          refine mo_ir (pc := 35) dX11_descriptor_35 rfl rfl ?_
          first | (rw [Fdescriptor]; (try dsimp only); rw [if_neg c_9, if_neg c_13, if_neg c_18, if_neg c_31]; done) | (rw [Fdescriptor]; (try dsimp only); rw [if_neg c_9, if_neg c_13, if_neg c_18, if_neg c_31]; rfl)
def Ffile (a : Int32) (w : Int32) (m : mD) : Int32 × mD :=
  let m1 := ab_up m 0 0 (nI (0))
  if (a) < 0 then
    ((-1), m1)
  else
    if (nI (15)) < (a) then
      ((-1), m1)
    else
      if (m1 16 ((a).toNatClampNeg)) = 0 then
        ((-1), m1)
      else
        if (w) < 0 then
          ((-1), m1)
        else
          if (w) ≤ (nI (4)) then
            if (w) = 0 then
              ((m1 17 ((a).toNatClampNeg)), m1)
            else
              if (m1 17 ((a).toNatClampNeg)) ≤ ((nI (8)) * ((w) - (nI (1)))) then
                ((-1), m1)
              else
                ((m1 18 (((((nI (4)) * (a)) + (w)) - (nI (1))).toNatClampNeg)), m1)
          else
            ((-1), m1)
def Dfile (a : Int32) (w : Int32) (m : mD) : Prop :=
  let m1 := ab_up m 0 0 (nI (0))
  (((a) < 0) →
    True) ∧
  (¬ ((a) < 0) →
    (((nI (15)) < (a)) →
      True) ∧
    (¬ ((nI (15)) < (a)) →
      (¬ (a) < 0) ∧
      (((a).toNatClampNeg) < 16) ∧
      (((m1 16 ((a).toNatClampNeg)) = 0) →
        True) ∧
      (¬ ((m1 16 ((a).toNatClampNeg)) = 0) →
        (((w) < 0) →
          True) ∧
        (¬ ((w) < 0) →
          (((w) ≤ (nI (4))) →
            (((w) = 0) →
              (¬ (a) < 0) ∧
              (((a).toNatClampNeg) < 16) ∧
              True) ∧
            (¬ ((w) = 0) →
              (¬ (a) < 0) ∧
              (((a).toNatClampNeg) < 16) ∧
              (((m1 17 ((a).toNatClampNeg)) ≤ ((nI (8)) * ((w) - (nI (1))))) →
                True) ∧
              (¬ ((m1 17 ((a).toNatClampNeg)) ≤ ((nI (8)) * ((w) - (nI (1))))) →
                (¬ ((((nI (4)) * (a)) + (w)) - (nI (1))) < 0) ∧
                ((((((nI (4)) * (a)) + (w)) - (nI (1))).toNatClampNeg) < 64) ∧
                True))) ∧
          (¬ ((w) ≤ (nI (4))) →
            True)))))
set_option maxRecDepth 100000 in
set_option maxHeartbeats 4000000 in
theorem c_file {tt : Prop} (a : Int32) (w : Int32) (m : mD) (hD : Dfile a w m) : ab_Met mX11_file 0 0 0 tt [.ref (0), .int (a), .int (w)] (sM m) (mQi (Ffile a w m)) := by
  refine ab_Met.of rfl (Nat.le_of_ble_eq_true rfl) ?_
  show mV mX11_file 0 tt (mQi (Ffile a w m)) 0 [some (.ref (0)), some (.int (a)), some (.int (w))] [] m
  refine ab_aload_n (pc := 0) dX11_file_0 rfl rfl ?_
  refine ab_iconst (pc := 1) (v := nI 0) dX11_file_1 (by decide) ?_
  refine mo_pi (pc := 2) dX11_file_2 fl_X11_1 rfl rfl (ab_ok_i _) ?_
  refine ab_iload_n (pc := 5) dX11_file_5 rfl rfl ?_
  refine ab_if_lt (pc := 6) (tgt := 33) dX11_file_6 (by decide) (fun c_6 => ?_) (fun c_6 => ?_)
  · refine ab_iconst (pc := 33) (v := -1) dX11_file_33 (by decide) ?_
    refine mo_ir (pc := 34) dX11_file_34 rfl rfl ?_
    first | (rw [Ffile]; (try dsimp only); rw [if_pos c_6]; done) | (rw [Ffile]; (try dsimp only); rw [if_pos c_6]; rfl)
  · replace hD := hD.2 c_6
    refine ab_iload_n (pc := 9) dX11_file_9 rfl rfl ?_
    refine ab_bipush (pc := 10) (v := nI 15) dX11_file_10 (by decide) ?_
    refine ab_icmp_gt (pc := 12) (tgt := 33) dX11_file_12 (by decide) (fun c_12 => ?_) (fun c_12 => ?_)
    · refine ab_iconst (pc := 33) (v := -1) dX11_file_33 (by decide) ?_
      refine mo_ir (pc := 34) dX11_file_34 rfl rfl ?_
      first | (rw [Ffile]; (try dsimp only); rw [if_neg c_6, if_pos c_12]; done) | (rw [Ffile]; (try dsimp only); rw [if_neg c_6, if_pos c_12]; rfl)
    · replace hD := hD.2 c_12
      refine ab_aload_n (pc := 15) dX11_file_15 rfl rfl ?_
      refine mo_gr (pc := 16) dX11_file_16 fl_X11_98 rfl rfl ?_
      refine ab_iload_n (pc := 19) dX11_file_19 rfl rfl ?_
      obtain ⟨o2, hD⟩ := hD
      refine ab_nat1 (ab_nat o2) ?_
      obtain ⟨o3, hD⟩ := hD
      refine mo_zld (pc := 20) dX11_file_20 (by decide) rfl o3 (by decide) ?_
      refine ab_if_eq (pc := 21) (tgt := 33) dX11_file_21 (by decide) (fun c_21 => ?_) (fun c_21 => ?_)
      · refine ab_iconst (pc := 33) (v := -1) dX11_file_33 (by decide) ?_
        refine mo_ir (pc := 34) dX11_file_34 rfl rfl ?_
        first | (rw [Ffile]; (try dsimp only); rw [if_neg c_6, if_neg c_12, if_pos c_21]; done) | (rw [Ffile]; (try dsimp only); rw [if_neg c_6, if_neg c_12, if_pos c_21]; rfl)
      · replace hD := hD.2 c_21
        refine ab_iload_n (pc := 24) dX11_file_24 rfl rfl ?_
        refine ab_if_lt (pc := 25) (tgt := 33) dX11_file_25 (by decide) (fun c_25 => ?_) (fun c_25 => ?_)
        · refine ab_iconst (pc := 33) (v := -1) dX11_file_33 (by decide) ?_
          refine mo_ir (pc := 34) dX11_file_34 rfl rfl ?_
          first | (rw [Ffile]; (try dsimp only); rw [if_neg c_6, if_neg c_12, if_neg c_21, if_pos c_25]; done) | (rw [Ffile]; (try dsimp only); rw [if_neg c_6, if_neg c_12, if_neg c_21, if_pos c_25]; rfl)
        · replace hD := hD.2 c_25
          refine ab_iload_n (pc := 28) dX11_file_28 rfl rfl ?_
          refine ab_iconst (pc := 29) (v := nI 4) dX11_file_29 (by decide) ?_
          refine ab_icmp_le (pc := 30) (tgt := 35) dX11_file_30 (by decide) (fun c_30 => ?_) (fun c_30 => ?_)
          · replace hD := hD.1 c_30
            refine ab_iload_n (pc := 35) dX11_file_35 rfl rfl ?_
            refine ab_if_ne (pc := 36) (tgt := 48) dX11_file_36 (by decide) (fun c_36 => ?_) (fun c_36 => ?_)
            · replace hD := hD.2 c_36
              refine ab_bipush (pc := 48) (v := nI 8) dX11_file_48 (by decide) ?_
              refine ab_iload_n (pc := 50) dX11_file_50 rfl rfl ?_
              refine ab_iconst (pc := 51) (v := nI 1) dX11_file_51 (by decide) ?_
              refine ab_isub (pc := 52) dX11_file_52 ?_
              refine ab_imul (pc := 53) dX11_file_53 ?_
              refine ab_aload_n (pc := 54) dX11_file_54 rfl rfl ?_
              refine mo_gr (pc := 55) dX11_file_55 fl_X11_101 rfl rfl ?_
              refine ab_iload_n (pc := 58) dX11_file_58 rfl rfl ?_
              obtain ⟨o4, hD⟩ := hD
              refine ab_nat1 (ab_nat o4) ?_
              obtain ⟨o5, hD⟩ := hD
              refine mo_ild (pc := 59) dX11_file_59 (by decide) rfl o5 (by decide) ?_
              refine ab_icmp_ge (pc := 60) (tgt := 78) dX11_file_60 (by decide) (fun c_60 => ?_) (fun c_60 => ?_)
              · refine ab_iconst (pc := 78) (v := -1) dX11_file_78 (by decide) ?_
                refine mo_ir (pc := 79) dX11_file_79 rfl rfl ?_
                first | (rw [Ffile]; (try dsimp only); rw [if_neg c_6, if_neg c_12, if_neg c_21, if_neg c_25, if_pos c_30, if_neg c_36, if_pos c_60]; done) | (rw [Ffile]; (try dsimp only); rw [if_neg c_6, if_neg c_12, if_neg c_21, if_neg c_25, if_pos c_30, if_neg c_36, if_pos c_60]; rfl)
              · replace hD := hD.2 c_60
                refine ab_aload_n (pc := 63) dX11_file_63 rfl rfl ?_
                refine mo_gr (pc := 64) dX11_file_64 fl_X11_104 rfl rfl ?_
                refine ab_iconst (pc := 67) (v := nI 4) dX11_file_67 (by decide) ?_
                refine ab_iload_n (pc := 68) dX11_file_68 rfl rfl ?_
                refine ab_imul (pc := 69) dX11_file_69 ?_
                refine ab_iload_n (pc := 70) dX11_file_70 rfl rfl ?_
                refine ab_iadd (pc := 71) dX11_file_71 ?_
                refine ab_iconst (pc := 72) (v := nI 1) dX11_file_72 (by decide) ?_
                refine ab_isub (pc := 73) dX11_file_73 ?_
                obtain ⟨o6, hD⟩ := hD
                refine ab_nat1 (ab_nat o6) ?_
                obtain ⟨o7, hD⟩ := hD
                refine mo_ild (pc := 74) dX11_file_74 (by decide) rfl o7 (by decide) ?_
                refine ab_goto (pc := 75) (tgt := 79) dX11_file_75 (by decide) ?_
                refine mo_ir (pc := 79) dX11_file_79 rfl rfl ?_
                first | (rw [Ffile]; (try dsimp only); rw [if_neg c_6, if_neg c_12, if_neg c_21, if_neg c_25, if_pos c_30, if_neg c_36, if_neg c_60]; done) | (rw [Ffile]; (try dsimp only); rw [if_neg c_6, if_neg c_12, if_neg c_21, if_neg c_25, if_pos c_30, if_neg c_36, if_neg c_60]; rfl)
            · replace hD := hD.1 c_36
              refine ab_aload_n (pc := 39) dX11_file_39 rfl rfl ?_
              refine mo_gr (pc := 40) dX11_file_40 fl_X11_101 rfl rfl ?_
              refine ab_iload_n (pc := 43) dX11_file_43 rfl rfl ?_
              obtain ⟨o8, hD⟩ := hD
              refine ab_nat1 (ab_nat o8) ?_
              obtain ⟨o9, hD⟩ := hD
              refine mo_ild (pc := 44) dX11_file_44 (by decide) rfl o9 (by decide) ?_
              refine ab_goto (pc := 45) (tgt := 79) dX11_file_45 (by decide) ?_
              refine mo_ir (pc := 79) dX11_file_79 rfl rfl ?_
              first | (rw [Ffile]; (try dsimp only); rw [if_neg c_6, if_neg c_12, if_neg c_21, if_neg c_25, if_pos c_30, if_pos c_36]; done) | (rw [Ffile]; (try dsimp only); rw [if_neg c_6, if_neg c_12, if_neg c_21, if_neg c_25, if_pos c_30, if_pos c_36]; rfl)
          · refine ab_iconst (pc := 33) (v := -1) dX11_file_33 (by decide) ?_
            refine mo_ir (pc := 34) dX11_file_34 rfl rfl ?_
            first | (rw [Ffile]; (try dsimp only); rw [if_neg c_6, if_neg c_12, if_neg c_21, if_neg c_25, if_neg c_30]; done) | (rw [Ffile]; (try dsimp only); rw [if_neg c_6, if_neg c_12, if_neg c_21, if_neg c_25, if_neg c_30]; rfl)
def Fdisk (b : Int32) (k : Int32) (m : mD) : Int32 × mD :=
  if (b) < 0 then
    let m1 := ab_up m 0 0 (nI (1))
    if (m1 0 0) ≤ 0 then
      ((m1 20 ((((nI (8)) * (b)) + (k)).toNatClampNeg)), m1)
    else
      ((nI (0)), m1)
  else
    if (nI (24)) ≤ (b) then
      let m4 := ab_up m 0 0 (nI (1))
      if (m4 0 0) ≤ 0 then
        ((m4 20 ((((nI (8)) * (b)) + (k)).toNatClampNeg)), m4)
      else
        ((nI (0)), m4)
    else
      if (k) < 0 then
        let m7 := ab_up m 0 0 (nI (1))
        if (m7 0 0) ≤ 0 then
          ((m7 20 ((((nI (8)) * (b)) + (k)).toNatClampNeg)), m7)
        else
          ((nI (0)), m7)
      else
        if (nI (8)) ≤ (k) then
          let m10 := ab_up m 0 0 (nI (1))
          if (m10 0 0) ≤ 0 then
            ((m10 20 ((((nI (8)) * (b)) + (k)).toNatClampNeg)), m10)
          else
            ((nI (0)), m10)
        else
          let m13 := ab_up m 0 0 (nI (0))
          if (m13 0 0) ≤ 0 then
            ((m13 20 ((((nI (8)) * (b)) + (k)).toNatClampNeg)), m13)
          else
            ((nI (0)), m13)
def Ddisk (b : Int32) (k : Int32) (m : mD) : Prop :=
  (((b) < 0) →
    let m1 := ab_up m 0 0 (nI (1))
    (((m1 0 0) ≤ 0) →
      (¬ (((nI (8)) * (b)) + (k)) < 0) ∧
      (((((nI (8)) * (b)) + (k)).toNatClampNeg) < 192) ∧
      True) ∧
    (¬ ((m1 0 0) ≤ 0) →
      True)) ∧
  (¬ ((b) < 0) →
    (((nI (24)) ≤ (b)) →
      let m4 := ab_up m 0 0 (nI (1))
      (((m4 0 0) ≤ 0) →
        (¬ (((nI (8)) * (b)) + (k)) < 0) ∧
        (((((nI (8)) * (b)) + (k)).toNatClampNeg) < 192) ∧
        True) ∧
      (¬ ((m4 0 0) ≤ 0) →
        True)) ∧
    (¬ ((nI (24)) ≤ (b)) →
      (((k) < 0) →
        let m7 := ab_up m 0 0 (nI (1))
        (((m7 0 0) ≤ 0) →
          (¬ (((nI (8)) * (b)) + (k)) < 0) ∧
          (((((nI (8)) * (b)) + (k)).toNatClampNeg) < 192) ∧
          True) ∧
        (¬ ((m7 0 0) ≤ 0) →
          True)) ∧
      (¬ ((k) < 0) →
        (((nI (8)) ≤ (k)) →
          let m10 := ab_up m 0 0 (nI (1))
          (((m10 0 0) ≤ 0) →
            (¬ (((nI (8)) * (b)) + (k)) < 0) ∧
            (((((nI (8)) * (b)) + (k)).toNatClampNeg) < 192) ∧
            True) ∧
          (¬ ((m10 0 0) ≤ 0) →
            True)) ∧
        (¬ ((nI (8)) ≤ (k)) →
          let m13 := ab_up m 0 0 (nI (0))
          (((m13 0 0) ≤ 0) →
            (¬ (((nI (8)) * (b)) + (k)) < 0) ∧
            (((((nI (8)) * (b)) + (k)).toNatClampNeg) < 192) ∧
            True) ∧
          (¬ ((m13 0 0) ≤ 0) →
            True)))))
set_option maxRecDepth 100000 in
set_option maxHeartbeats 4000000 in
theorem c_disk {tt : Prop} (b : Int32) (k : Int32) (m : mD) (hD : Ddisk b k m) : ab_Met mX11_disk 0 0 0 tt [.ref (0), .int (b), .int (k)] (sM m) (mQi (Fdisk b k m)) := by
  refine ab_Met.of rfl (Nat.le_of_ble_eq_true rfl) ?_
  show mV mX11_disk 0 tt (mQi (Fdisk b k m)) 0 [some (.ref (0)), some (.int (b)), some (.int (k))] [] m
  refine ab_aload_n (pc := 0) dX11_disk_0 rfl rfl ?_
  refine ab_iload_n (pc := 1) dX11_disk_1 rfl rfl ?_
  refine ab_if_lt (pc := 2) (tgt := 25) dX11_disk_2 (by decide) (fun c_2 => ?_) (fun c_2 => ?_)
  · replace hD := hD.1 c_2
    refine ab_iconst (pc := 25) (v := nI 1) dX11_disk_25 (by decide) ?_
    refine mo_pi (pc := 26) dX11_disk_26 fl_X11_1 rfl rfl (ab_ok_i _) ?_
    refine ab_aload_n (pc := 29) dX11_disk_29 rfl rfl ?_
    refine mo_gi (pc := 30) dX11_disk_30 fl_X11_1 rfl ?_
    refine ab_if_le (pc := 33) (tgt := 40) dX11_disk_33 (by decide) (fun c_33 => ?_) (fun c_33 => ?_)
    · replace hD := hD.1 c_33
      refine ab_aload_n (pc := 40) dX11_disk_40 rfl rfl ?_
      refine mo_gr (pc := 41) dX11_disk_41 fl_X11_110 rfl rfl ?_
      refine ab_bipush (pc := 44) (v := nI 8) dX11_disk_44 (by decide) ?_
      refine ab_iload_n (pc := 46) dX11_disk_46 rfl rfl ?_
      refine ab_imul (pc := 47) dX11_disk_47 ?_
      refine ab_iload_n (pc := 48) dX11_disk_48 rfl rfl ?_
      refine ab_iadd (pc := 49) dX11_disk_49 ?_
      obtain ⟨o2, hD⟩ := hD
      refine ab_nat1 (ab_nat o2) ?_
      obtain ⟨o3, hD⟩ := hD
      refine mo_ild (pc := 50) dX11_disk_50 (by decide) rfl o3 (by decide) ?_
      refine mo_ir (pc := 51) dX11_disk_51 rfl rfl ?_
      first | (rw [Fdisk]; (try dsimp only); rw [if_pos c_2, if_pos c_33]; done) | (rw [Fdisk]; (try dsimp only); rw [if_pos c_2, if_pos c_33]; rfl)
    · refine ab_iconst (pc := 36) (v := nI 0) dX11_disk_36 (by decide) ?_
      refine ab_goto (pc := 37) (tgt := 51) dX11_disk_37 (by decide) ?_
      refine mo_ir (pc := 51) dX11_disk_51 rfl rfl ?_
      first | (rw [Fdisk]; (try dsimp only); rw [if_pos c_2, if_neg c_33]; done) | (rw [Fdisk]; (try dsimp only); rw [if_pos c_2, if_neg c_33]; rfl)
  · replace hD := hD.2 c_2
    refine ab_iload_n (pc := 5) dX11_disk_5 rfl rfl ?_
    refine ab_bipush (pc := 6) (v := nI 24) dX11_disk_6 (by decide) ?_
    refine ab_icmp_ge (pc := 8) (tgt := 25) dX11_disk_8 (by decide) (fun c_8 => ?_) (fun c_8 => ?_)
    · replace hD := hD.1 c_8
      refine ab_iconst (pc := 25) (v := nI 1) dX11_disk_25 (by decide) ?_
      refine mo_pi (pc := 26) dX11_disk_26 fl_X11_1 rfl rfl (ab_ok_i _) ?_
      refine ab_aload_n (pc := 29) dX11_disk_29 rfl rfl ?_
      refine mo_gi (pc := 30) dX11_disk_30 fl_X11_1 rfl ?_
      refine ab_if_le (pc := 33) (tgt := 40) dX11_disk_33 (by decide) (fun c_33 => ?_) (fun c_33 => ?_)
      · replace hD := hD.1 c_33
        refine ab_aload_n (pc := 40) dX11_disk_40 rfl rfl ?_
        refine mo_gr (pc := 41) dX11_disk_41 fl_X11_110 rfl rfl ?_
        refine ab_bipush (pc := 44) (v := nI 8) dX11_disk_44 (by decide) ?_
        refine ab_iload_n (pc := 46) dX11_disk_46 rfl rfl ?_
        refine ab_imul (pc := 47) dX11_disk_47 ?_
        refine ab_iload_n (pc := 48) dX11_disk_48 rfl rfl ?_
        refine ab_iadd (pc := 49) dX11_disk_49 ?_
        obtain ⟨o5, hD⟩ := hD
        refine ab_nat1 (ab_nat o5) ?_
        obtain ⟨o6, hD⟩ := hD
        refine mo_ild (pc := 50) dX11_disk_50 (by decide) rfl o6 (by decide) ?_
        refine mo_ir (pc := 51) dX11_disk_51 rfl rfl ?_
        first | (rw [Fdisk]; (try dsimp only); rw [if_neg c_2, if_pos c_8, if_pos c_33]; done) | (rw [Fdisk]; (try dsimp only); rw [if_neg c_2, if_pos c_8, if_pos c_33]; rfl)
      · refine ab_iconst (pc := 36) (v := nI 0) dX11_disk_36 (by decide) ?_
        refine ab_goto (pc := 37) (tgt := 51) dX11_disk_37 (by decide) ?_
        refine mo_ir (pc := 51) dX11_disk_51 rfl rfl ?_
        first | (rw [Fdisk]; (try dsimp only); rw [if_neg c_2, if_pos c_8, if_neg c_33]; done) | (rw [Fdisk]; (try dsimp only); rw [if_neg c_2, if_pos c_8, if_neg c_33]; rfl)
    · replace hD := hD.2 c_8
      refine ab_iload_n (pc := 11) dX11_disk_11 rfl rfl ?_
      refine ab_if_lt (pc := 12) (tgt := 25) dX11_disk_12 (by decide) (fun c_12 => ?_) (fun c_12 => ?_)
      · replace hD := hD.1 c_12
        refine ab_iconst (pc := 25) (v := nI 1) dX11_disk_25 (by decide) ?_
        refine mo_pi (pc := 26) dX11_disk_26 fl_X11_1 rfl rfl (ab_ok_i _) ?_
        refine ab_aload_n (pc := 29) dX11_disk_29 rfl rfl ?_
        refine mo_gi (pc := 30) dX11_disk_30 fl_X11_1 rfl ?_
        refine ab_if_le (pc := 33) (tgt := 40) dX11_disk_33 (by decide) (fun c_33 => ?_) (fun c_33 => ?_)
        · replace hD := hD.1 c_33
          refine ab_aload_n (pc := 40) dX11_disk_40 rfl rfl ?_
          refine mo_gr (pc := 41) dX11_disk_41 fl_X11_110 rfl rfl ?_
          refine ab_bipush (pc := 44) (v := nI 8) dX11_disk_44 (by decide) ?_
          refine ab_iload_n (pc := 46) dX11_disk_46 rfl rfl ?_
          refine ab_imul (pc := 47) dX11_disk_47 ?_
          refine ab_iload_n (pc := 48) dX11_disk_48 rfl rfl ?_
          refine ab_iadd (pc := 49) dX11_disk_49 ?_
          obtain ⟨o8, hD⟩ := hD
          refine ab_nat1 (ab_nat o8) ?_
          obtain ⟨o9, hD⟩ := hD
          refine mo_ild (pc := 50) dX11_disk_50 (by decide) rfl o9 (by decide) ?_
          refine mo_ir (pc := 51) dX11_disk_51 rfl rfl ?_
          first | (rw [Fdisk]; (try dsimp only); rw [if_neg c_2, if_neg c_8, if_pos c_12, if_pos c_33]; done) | (rw [Fdisk]; (try dsimp only); rw [if_neg c_2, if_neg c_8, if_pos c_12, if_pos c_33]; rfl)
        · refine ab_iconst (pc := 36) (v := nI 0) dX11_disk_36 (by decide) ?_
          refine ab_goto (pc := 37) (tgt := 51) dX11_disk_37 (by decide) ?_
          refine mo_ir (pc := 51) dX11_disk_51 rfl rfl ?_
          first | (rw [Fdisk]; (try dsimp only); rw [if_neg c_2, if_neg c_8, if_pos c_12, if_neg c_33]; done) | (rw [Fdisk]; (try dsimp only); rw [if_neg c_2, if_neg c_8, if_pos c_12, if_neg c_33]; rfl)
      · replace hD := hD.2 c_12
        refine ab_iload_n (pc := 15) dX11_disk_15 rfl rfl ?_
        refine ab_bipush (pc := 16) (v := nI 8) dX11_disk_16 (by decide) ?_
        refine ab_icmp_ge (pc := 18) (tgt := 25) dX11_disk_18 (by decide) (fun c_18 => ?_) (fun c_18 => ?_)
        · replace hD := hD.1 c_18
          refine ab_iconst (pc := 25) (v := nI 1) dX11_disk_25 (by decide) ?_
          refine mo_pi (pc := 26) dX11_disk_26 fl_X11_1 rfl rfl (ab_ok_i _) ?_
          refine ab_aload_n (pc := 29) dX11_disk_29 rfl rfl ?_
          refine mo_gi (pc := 30) dX11_disk_30 fl_X11_1 rfl ?_
          refine ab_if_le (pc := 33) (tgt := 40) dX11_disk_33 (by decide) (fun c_33 => ?_) (fun c_33 => ?_)
          · replace hD := hD.1 c_33
            refine ab_aload_n (pc := 40) dX11_disk_40 rfl rfl ?_
            refine mo_gr (pc := 41) dX11_disk_41 fl_X11_110 rfl rfl ?_
            refine ab_bipush (pc := 44) (v := nI 8) dX11_disk_44 (by decide) ?_
            refine ab_iload_n (pc := 46) dX11_disk_46 rfl rfl ?_
            refine ab_imul (pc := 47) dX11_disk_47 ?_
            refine ab_iload_n (pc := 48) dX11_disk_48 rfl rfl ?_
            refine ab_iadd (pc := 49) dX11_disk_49 ?_
            obtain ⟨o11, hD⟩ := hD
            refine ab_nat1 (ab_nat o11) ?_
            obtain ⟨o12, hD⟩ := hD
            refine mo_ild (pc := 50) dX11_disk_50 (by decide) rfl o12 (by decide) ?_
            refine mo_ir (pc := 51) dX11_disk_51 rfl rfl ?_
            first | (rw [Fdisk]; (try dsimp only); rw [if_neg c_2, if_neg c_8, if_neg c_12, if_pos c_18, if_pos c_33]; done) | (rw [Fdisk]; (try dsimp only); rw [if_neg c_2, if_neg c_8, if_neg c_12, if_pos c_18, if_pos c_33]; rfl)
          · refine ab_iconst (pc := 36) (v := nI 0) dX11_disk_36 (by decide) ?_
            refine ab_goto (pc := 37) (tgt := 51) dX11_disk_37 (by decide) ?_
            refine mo_ir (pc := 51) dX11_disk_51 rfl rfl ?_
            first | (rw [Fdisk]; (try dsimp only); rw [if_neg c_2, if_neg c_8, if_neg c_12, if_pos c_18, if_neg c_33]; done) | (rw [Fdisk]; (try dsimp only); rw [if_neg c_2, if_neg c_8, if_neg c_12, if_pos c_18, if_neg c_33]; rfl)
        · replace hD := hD.2 c_18
          refine ab_iconst (pc := 21) (v := nI 0) dX11_disk_21 (by decide) ?_
          refine ab_goto (pc := 22) (tgt := 26) dX11_disk_22 (by decide) ?_
          refine mo_pi (pc := 26) dX11_disk_26 fl_X11_1 rfl rfl (ab_ok_i _) ?_
          refine ab_aload_n (pc := 29) dX11_disk_29 rfl rfl ?_
          refine mo_gi (pc := 30) dX11_disk_30 fl_X11_1 rfl ?_
          refine ab_if_le (pc := 33) (tgt := 40) dX11_disk_33 (by decide) (fun c_33 => ?_) (fun c_33 => ?_)
          · replace hD := hD.1 c_33
            refine ab_aload_n (pc := 40) dX11_disk_40 rfl rfl ?_
            refine mo_gr (pc := 41) dX11_disk_41 fl_X11_110 rfl rfl ?_
            refine ab_bipush (pc := 44) (v := nI 8) dX11_disk_44 (by decide) ?_
            refine ab_iload_n (pc := 46) dX11_disk_46 rfl rfl ?_
            refine ab_imul (pc := 47) dX11_disk_47 ?_
            refine ab_iload_n (pc := 48) dX11_disk_48 rfl rfl ?_
            refine ab_iadd (pc := 49) dX11_disk_49 ?_
            obtain ⟨o14, hD⟩ := hD
            refine ab_nat1 (ab_nat o14) ?_
            obtain ⟨o15, hD⟩ := hD
            refine mo_ild (pc := 50) dX11_disk_50 (by decide) rfl o15 (by decide) ?_
            refine mo_ir (pc := 51) dX11_disk_51 rfl rfl ?_
            first | (rw [Fdisk]; (try dsimp only); rw [if_neg c_2, if_neg c_8, if_neg c_12, if_neg c_18, if_pos c_33]; done) | (rw [Fdisk]; (try dsimp only); rw [if_neg c_2, if_neg c_8, if_neg c_12, if_neg c_18, if_pos c_33]; rfl)
          · refine ab_iconst (pc := 36) (v := nI 0) dX11_disk_36 (by decide) ?_
            refine ab_goto (pc := 37) (tgt := 51) dX11_disk_37 (by decide) ?_
            refine mo_ir (pc := 51) dX11_disk_51 rfl rfl ?_
            first | (rw [Fdisk]; (try dsimp only); rw [if_neg c_2, if_neg c_8, if_neg c_12, if_neg c_18, if_neg c_33]; done) | (rw [Fdisk]; (try dsimp only); rw [if_neg c_2, if_neg c_8, if_neg c_12, if_neg c_18, if_neg c_33]; rfl)
def Finbox (p : Int32) (m : mD) : Int32 × mD :=
  let m1 := ab_up m 0 0 (nI (0))
  if (FisPart (p)) = 0 then
    ((-1), m1)
  else
    ((nI ((m1 2 ((p).toNatClampNeg)).toNatClampNeg)), m1)
def Dinbox (p : Int32) (m : mD) : Prop :=
  let m1 := ab_up m 0 0 (nI (0))
  (((FisPart (p)) = 0) →
    True) ∧
  (¬ ((FisPart (p)) = 0) →
    (¬ (p) < 0) ∧
    (((p).toNatClampNeg) < 12) ∧
    (¬ (m1 2 ((p).toNatClampNeg)) < 0) ∧
    True)
set_option maxRecDepth 100000 in
set_option maxHeartbeats 4000000 in
theorem c_inbox {tt : Prop} (p : Int32) (m : mD) (hD : Dinbox p m) : ab_Met mX11_inbox 1 0 0 tt [.ref (0), .int (p)] (sM m) (mQi (Finbox p m)) := by
  refine ab_Met.of rfl (Nat.le_of_ble_eq_true rfl) ?_
  show mV mX11_inbox 1 tt (mQi (Finbox p m)) 0 [some (.ref (0)), some (.int (p))] [] m
  refine ab_aload_n (pc := 0) dX11_inbox_0 rfl rfl ?_
  refine ab_iconst (pc := 1) (v := nI 0) dX11_inbox_1 (by decide) ?_
  refine mo_pi (pc := 2) dX11_inbox_2 fl_X11_1 rfl rfl (ab_ok_i _) ?_
  refine ab_iload_n (pc := 5) dX11_inbox_5 rfl rfl ?_
  refine mo_invs (N := mX11_isPart) (pc := 6) (d' := 0) (av := [_]) dX11_inbox_6 ml_X11_284 fs_X11_isPart (Nat.le_of_ble_eq_true rfl) (by decide) (c_isPart _ _ trivial) ?_
  refine ab_if_eq (pc := 9) (tgt := 21) dX11_inbox_9 (by decide) (fun c_9 => ?_) (fun c_9 => ?_)
  · refine ab_iconst (pc := 21) (v := -1) dX11_inbox_21 (by decide) ?_
    refine mo_ir (pc := 22) dX11_inbox_22 rfl rfl ?_
    first | (rw [Finbox]; (try dsimp only); rw [if_pos c_9]; done) | (rw [Finbox]; (try dsimp only); rw [if_pos c_9]; rfl)
  · replace hD := hD.2 c_9
    refine ab_aload_n (pc := 12) dX11_inbox_12 rfl rfl ?_
    refine mo_gr (pc := 13) dX11_inbox_13 fl_X11_38 rfl rfl ?_
    refine ab_iload_n (pc := 16) dX11_inbox_16 rfl rfl ?_
    obtain ⟨o2, hD⟩ := hD
    refine ab_nat1 (ab_nat o2) ?_
    obtain ⟨o3, hD⟩ := hD
    refine mo_ild (pc := 17) dX11_inbox_17 (by decide) rfl o3 (by decide) ?_
    obtain ⟨o4, hD⟩ := hD
    refine ab_nat1 (ab_nat o4) ?_
    refine ab_goto (pc := 18) (tgt := 22) dX11_inbox_18 (by decide) ?_
    refine mo_ir (pc := 22) dX11_inbox_22 rfl rfl ?_
    first | (rw [Finbox]; (try dsimp only); rw [if_neg c_9]; done) | (rw [Finbox]; (try dsimp only); rw [if_neg c_9]; rfl)
def Fmessage (p : Int32) (k : Int32) (w : Int32) (m : mD) : Int32 × mD :=
  let m1 := ab_up m 0 0 (nI (0))
  if (FisPart (p)) = 0 then
    ((-1), m1)
  else
    if (k) < 0 then
      ((-1), m1)
    else
      if (nI ((m1 2 ((p).toNatClampNeg)).toNatClampNeg)) ≤ (k) then
        ((-1), m1)
      else
        if (w) < 0 then
          ((-1), m1)
        else
          if (w) ≤ (nI (4)) then
            ((Ffield ((p).toNatClampNeg) ((k).toNatClampNeg) ((w).toNatClampNeg) m1), m1)
          else
            ((-1), m1)
def Dmessage (p : Int32) (k : Int32) (w : Int32) (m : mD) : Prop :=
  let m1 := ab_up m 0 0 (nI (0))
  (((FisPart (p)) = 0) →
    True) ∧
  (¬ ((FisPart (p)) = 0) →
    (((k) < 0) →
      True) ∧
    (¬ ((k) < 0) →
      (¬ (p) < 0) ∧
      (((p).toNatClampNeg) < 12) ∧
      (¬ (m1 2 ((p).toNatClampNeg)) < 0) ∧
      (((nI ((m1 2 ((p).toNatClampNeg)).toNatClampNeg)) ≤ (k)) →
        True) ∧
      (¬ ((nI ((m1 2 ((p).toNatClampNeg)).toNatClampNeg)) ≤ (k)) →
        (((w) < 0) →
          True) ∧
        (¬ ((w) < 0) →
          (((w) ≤ (nI (4))) →
            (¬ (p) < 0) ∧
            (¬ (k) < 0) ∧
            (¬ (w) < 0) ∧
            (Dfield ((p).toNatClampNeg) ((k).toNatClampNeg) ((w).toNatClampNeg) m1) ∧
            True) ∧
          (¬ ((w) ≤ (nI (4))) →
            True)))))
set_option maxRecDepth 100000 in
set_option maxHeartbeats 4000000 in
theorem c_message {tt : Prop} (p : Int32) (k : Int32) (w : Int32) (m : mD) (hD : Dmessage p k w m) : ab_Met mX11_message 1 0 0 tt [.ref (0), .int (p), .int (k), .int (w)] (sM m) (mQi (Fmessage p k w m)) := by
  refine ab_Met.of rfl (Nat.le_of_ble_eq_true rfl) ?_
  show mV mX11_message 1 tt (mQi (Fmessage p k w m)) 0 [some (.ref (0)), some (.int (p)), some (.int (k)), some (.int (w))] [] m
  refine ab_aload_n (pc := 0) dX11_message_0 rfl rfl ?_
  refine ab_iconst (pc := 1) (v := nI 0) dX11_message_1 (by decide) ?_
  refine mo_pi (pc := 2) dX11_message_2 fl_X11_1 rfl rfl (ab_ok_i _) ?_
  refine ab_iload_n (pc := 5) dX11_message_5 rfl rfl ?_
  refine mo_invs (N := mX11_isPart) (pc := 6) (d' := 0) (av := [_]) dX11_message_6 ml_X11_284 fs_X11_isPart (Nat.le_of_ble_eq_true rfl) (by decide) (c_isPart _ _ trivial) ?_
  refine ab_if_eq (pc := 9) (tgt := 35) dX11_message_9 (by decide) (fun c_9 => ?_) (fun c_9 => ?_)
  · refine ab_iconst (pc := 35) (v := -1) dX11_message_35 (by decide) ?_
    refine mo_ir (pc := 36) dX11_message_36 rfl rfl ?_
    first | (rw [Fmessage]; (try dsimp only); rw [if_pos c_9]; done) | (rw [Fmessage]; (try dsimp only); rw [if_pos c_9]; rfl)
  · replace hD := hD.2 c_9
    refine ab_iload_n (pc := 12) dX11_message_12 rfl rfl ?_
    refine ab_if_lt (pc := 13) (tgt := 35) dX11_message_13 (by decide) (fun c_13 => ?_) (fun c_13 => ?_)
    · refine ab_iconst (pc := 35) (v := -1) dX11_message_35 (by decide) ?_
      refine mo_ir (pc := 36) dX11_message_36 rfl rfl ?_
      first | (rw [Fmessage]; (try dsimp only); rw [if_neg c_9, if_pos c_13]; done) | (rw [Fmessage]; (try dsimp only); rw [if_neg c_9, if_pos c_13]; rfl)
    · replace hD := hD.2 c_13
      refine ab_iload_n (pc := 16) dX11_message_16 rfl rfl ?_
      refine ab_aload_n (pc := 17) dX11_message_17 rfl rfl ?_
      refine mo_gr (pc := 18) dX11_message_18 fl_X11_38 rfl rfl ?_
      refine ab_iload_n (pc := 21) dX11_message_21 rfl rfl ?_
      obtain ⟨o2, hD⟩ := hD
      refine ab_nat1 (ab_nat o2) ?_
      obtain ⟨o3, hD⟩ := hD
      refine mo_ild (pc := 22) dX11_message_22 (by decide) rfl o3 (by decide) ?_
      obtain ⟨o4, hD⟩ := hD
      refine ab_nat1 (ab_nat o4) ?_
      refine ab_icmp_ge (pc := 23) (tgt := 35) dX11_message_23 (by decide) (fun c_23 => ?_) (fun c_23 => ?_)
      · refine ab_iconst (pc := 35) (v := -1) dX11_message_35 (by decide) ?_
        refine mo_ir (pc := 36) dX11_message_36 rfl rfl ?_
        first | (rw [Fmessage]; (try dsimp only); rw [if_neg c_9, if_neg c_13, if_pos c_23]; done) | (rw [Fmessage]; (try dsimp only); rw [if_neg c_9, if_neg c_13, if_pos c_23]; rfl)
      · replace hD := hD.2 c_23
        refine ab_iload_n (pc := 26) dX11_message_26 rfl rfl ?_
        refine ab_if_lt (pc := 27) (tgt := 35) dX11_message_27 (by decide) (fun c_27 => ?_) (fun c_27 => ?_)
        · refine ab_iconst (pc := 35) (v := -1) dX11_message_35 (by decide) ?_
          refine mo_ir (pc := 36) dX11_message_36 rfl rfl ?_
          first | (rw [Fmessage]; (try dsimp only); rw [if_neg c_9, if_neg c_13, if_neg c_23, if_pos c_27]; done) | (rw [Fmessage]; (try dsimp only); rw [if_neg c_9, if_neg c_13, if_neg c_23, if_pos c_27]; rfl)
        · replace hD := hD.2 c_27
          refine ab_iload_n (pc := 30) dX11_message_30 rfl rfl ?_
          refine ab_iconst (pc := 31) (v := nI 4) dX11_message_31 (by decide) ?_
          refine ab_icmp_le (pc := 32) (tgt := 37) dX11_message_32 (by decide) (fun c_32 => ?_) (fun c_32 => ?_)
          · replace hD := hD.1 c_32
            refine ab_aload_n (pc := 37) dX11_message_37 rfl rfl ?_
            refine ab_iload_n (pc := 38) dX11_message_38 rfl rfl ?_
            refine ab_iload_n (pc := 39) dX11_message_39 rfl rfl ?_
            refine ab_iload_n (pc := 40) dX11_message_40 rfl rfl ?_
            obtain ⟨o5, hD⟩ := hD
            obtain ⟨o6, hD⟩ := hD
            obtain ⟨o7, hD⟩ := hD
            refine ab_stk3 (congrArg Value.int (ab_nat o7)) (congrArg Value.int (ab_nat o6)) (congrArg Value.int (ab_nat o5)) ?_
            obtain ⟨o8, hD⟩ := hD
            refine mo_invr (N := mX11_field) (pc := 41) (d' := 0) (av := [_, _, _]) dX11_message_41 ml_X11_156 fv_X11_field (Nat.le_of_ble_eq_true rfl) (by decide) (c_field _ _ _ _ o8) ?_
            refine mo_ir (pc := 44) dX11_message_44 rfl rfl ?_
            first | (rw [Fmessage]; (try dsimp only); rw [if_neg c_9, if_neg c_13, if_neg c_23, if_neg c_27, if_pos c_32]; done) | (rw [Fmessage]; (try dsimp only); rw [if_neg c_9, if_neg c_13, if_neg c_23, if_neg c_27, if_pos c_32]; rfl)
          · refine ab_iconst (pc := 35) (v := -1) dX11_message_35 (by decide) ?_
            refine mo_ir (pc := 36) dX11_message_36 rfl rfl ?_
            first | (rw [Fmessage]; (try dsimp only); rw [if_neg c_9, if_neg c_13, if_neg c_23, if_neg c_27, if_neg c_32]; done) | (rw [Fmessage]; (try dsimp only); rw [if_neg c_9, if_neg c_13, if_neg c_23, if_neg c_27, if_neg c_32]; rfl)
def Fcount_43 : Nat → Int32 → Int32 → Int32 → Nat → mD → Int32 × mD
  | 0, _, _, _, _, m => (0, m)
  | n + 1, w, a2, a3, a4, m =>
    if 12 ≤ a4 then
      if (w) = 0 then
        ((m 0 47), m)
      else if (w) = 1 then
        ((nI ((m 0 48).toNatClampNeg)), m)
      else if (w) = 2 then
        ((m 0 25), m)
      else if (w) = 3 then
        if (m 0 23) = 0 then
          ((nI (0)), m)
        else
          if (m 0 24) = 0 then
            ((nI (1)), m)
          else
            ((nI (2)), m)
      else if (w) = 4 then
        ((m 0 26), m)
      else if (w) = 5 then
        if (m 0 27) ≤ 0 then
          ((nI (0)), m)
        else
          ((nI (1)), m)
      else if (w) = 6 then
        if (m 0 35) = 0 then
          ((nI (0)), m)
        else
          ((nI (1)), m)
      else if (w) = 7 then
        if (m 0 43) = 0 then
          ((nI (0)), m)
        else
          ((nI (1)), m)
      else if (w) = 8 then
        ((m 0 30), m)
      else if (w) = 9 then
        ((m 0 6), m)
      else if (w) = 10 then
        ((FfilesThere  m), m)
      else if (w) = 11 then
        ((a2), m)
      else if (w) = 12 then
        ((a3), m)
      else if (w) = 13 then
        ((m 0 7), m)
      else
        ((-1), m)
    else
      if (m 7 a4) = (nI (1)) then
        Fcount_43 n w (a2) ((a3) + (nI (1))) (a4 + 1) m
      else
        Fcount_43 n w (a2) ((a3) + (nI (0))) (a4 + 1) m
def Dcount_43 : Nat → Int32 → Int32 → Int32 → Nat → mD → Prop
  | 0, _, _, _, _, _ => False
  | n + 1, w, a2, a3, a4, m =>
    (a4 < 2147483648) ∧
    ((12 ≤ a4) →
      ((w) = 0 →
        True) ∧
      ((w) = 1 →
        (¬ (m 0 48) < 0) ∧
        True) ∧
      ((w) = 2 →
        True) ∧
      ((w) = 3 →
        True) ∧
      ((w) = 4 →
        True) ∧
      ((w) = 5 →
        True) ∧
      ((w) = 6 →
        True) ∧
      ((w) = 7 →
        True) ∧
      ((w) = 8 →
        True) ∧
      ((w) = 9 →
        True) ∧
      ((w) = 10 →
        (DfilesThere  m) ∧
        True) ∧
      ((w) = 11 →
        True) ∧
      ((w) = 12 →
        True) ∧
      ((w) = 13 →
        True) ∧
      ((∀ c ∈ ([(0, 148), (1, 153), (2, 158), (3, 163), (4, 187), (5, 192), (6, 205), (7, 218), (8, 231), (9, 236), (10, 241), (11, 246), (12, 248), (13, 250)] : List (Int32 × Nat)), ¬ (w) = c.1) →
        True)) ∧
    (¬ (12 ≤ a4) →
      (a4 < 12) ∧
      (((m 7 a4) = (nI (1))) →
        Dcount_43 n w (a2) ((a3) + (nI (1))) (a4 + 1) m) ∧
      (¬ ((m 7 a4) = (nI (1))) →
        Dcount_43 n w (a2) ((a3) + (nI (0))) (a4 + 1) m))
set_option maxRecDepth 100000 in
set_option maxHeartbeats 4000000 in
theorem w_count_43 {tt : Prop} : ∀ (n : Nat) (w : Int32) (a2 : Int32) (a3 : Int32) (a4 : Nat) (m : mD) (hD : Dcount_43 n w a2 a3 a4 m), mV mX11_count 1 tt (mQi (Fcount_43 n w a2 a3 a4 m)) 43 [some (.ref (0)), some (.int (w)), some (.int (a2)), some (.int (a3)), some (.int (nI (a4)))] [] m := by
  intro n
  induction n with
  | zero => intros; rename_i hD; exact hD.elim
  | succ n ih =>
    intro w a2 a3 a4 m hD
    refine ab_iload (pc := 43) dX11_count_43 rfl ?_
    refine ab_bipush (pc := 45) (v := nI 12) dX11_count_45 (by decide) ?_
    obtain ⟨o4, hD⟩ := hD
    refine ab_icmp_geN (pc := 47) (tgt := 75) dX11_count_47 (by decide) o4 (by decide) (fun c_47 => ?_) (fun c_47 => ?_)
    · replace hD := hD.1 c_47
      refine ab_iload_n (pc := 75) dX11_count_75 rfl rfl ?_
      refine ab_tsw (pc := 76) [(0, 148), (1, 153), (2, 158), (3, 163), (4, 187), (5, 192), (6, 205), (7, 218), (8, 231), (9, 236), (10, 241), (11, 246), (12, 248), (13, 250)] 255 dX11_count_76 (by decide +kernel) (ab_c1 (fun c_76 => ?_) (ab_c1 (fun c_76 => ?_) (ab_c1 (fun c_76 => ?_) (ab_c1 (fun c_76 => ?_) (ab_c1 (fun c_76 => ?_) (ab_c1 (fun c_76 => ?_) (ab_c1 (fun c_76 => ?_) (ab_c1 (fun c_76 => ?_) (ab_c1 (fun c_76 => ?_) (ab_c1 (fun c_76 => ?_) (ab_c1 (fun c_76 => ?_) (ab_c1 (fun c_76 => ?_) (ab_c1 (fun c_76 => ?_) (ab_c1 (fun c_76 => ?_) (ab_c0))))))))))))))) (fun c_76 => ?_)
      · refine ab_aload_n (pc := 148) dX11_count_148 rfl rfl ?_
        refine mo_gi (pc := 149) dX11_count_149 fl_X11_263 rfl ?_
        refine mo_ir (pc := 152) dX11_count_152 rfl rfl ?_
        first | (rw [Fcount_43]; (try dsimp only); rw [if_pos c_47, if_pos c_76]; done) | (rw [Fcount_43]; (try dsimp only); rw [if_pos c_47, if_pos c_76]; rfl)
      · replace hD := hD.2.1 c_76
        refine ab_aload_n (pc := 153) dX11_count_153 rfl rfl ?_
        refine mo_gi (pc := 154) dX11_count_154 fl_X11_260 rfl ?_
        obtain ⟨o5, hD⟩ := hD
        refine ab_nat1 (ab_nat o5) ?_
        refine mo_ir (pc := 157) dX11_count_157 rfl rfl ?_
        first | (rw [Fcount_43]; (try dsimp only); rw [if_pos c_47, if_neg (fun h => absurd (c_76.symm.trans h) (by decide)), if_pos c_76]; done) | (rw [Fcount_43]; (try dsimp only); rw [if_pos c_47, if_neg (fun h => absurd (c_76.symm.trans h) (by decide)), if_pos c_76]; rfl)
      · refine ab_aload_n (pc := 158) dX11_count_158 rfl rfl ?_
        refine mo_gi (pc := 159) dX11_count_159 fl_X11_35 rfl ?_
        refine mo_ir (pc := 162) dX11_count_162 rfl rfl ?_
        first | (rw [Fcount_43]; (try dsimp only); rw [if_pos c_47, if_neg (fun h => absurd (c_76.symm.trans h) (by decide)), if_neg (fun h => absurd (c_76.symm.trans h) (by decide)), if_pos c_76]; done) | (rw [Fcount_43]; (try dsimp only); rw [if_pos c_47, if_neg (fun h => absurd (c_76.symm.trans h) (by decide)), if_neg (fun h => absurd (c_76.symm.trans h) (by decide)), if_pos c_76]; rfl)
      · refine ab_aload_n (pc := 163) dX11_count_163 rfl rfl ?_
        refine mo_gi (pc := 164) dX11_count_164 fl_X11_15 rfl ?_
        refine ab_if_ne (pc := 167) (tgt := 174) dX11_count_167 (by decide) (fun c_167 => ?_) (fun c_167 => ?_)
        · refine ab_aload_n (pc := 174) dX11_count_174 rfl rfl ?_
          refine mo_gi (pc := 175) dX11_count_175 fl_X11_119 rfl ?_
          refine ab_if_eq (pc := 178) (tgt := 185) dX11_count_178 (by decide) (fun c_178 => ?_) (fun c_178 => ?_)
          · refine ab_iconst (pc := 185) (v := nI 1) dX11_count_185 (by decide) ?_
            refine mo_ir (pc := 186) dX11_count_186 rfl rfl ?_
            first | (rw [Fcount_43]; (try dsimp only); rw [if_pos c_47, if_neg (fun h => absurd (c_76.symm.trans h) (by decide)), if_neg (fun h => absurd (c_76.symm.trans h) (by decide)), if_neg (fun h => absurd (c_76.symm.trans h) (by decide)), if_pos c_76, if_neg c_167, if_pos c_178]; done) | (rw [Fcount_43]; (try dsimp only); rw [if_pos c_47, if_neg (fun h => absurd (c_76.symm.trans h) (by decide)), if_neg (fun h => absurd (c_76.symm.trans h) (by decide)), if_neg (fun h => absurd (c_76.symm.trans h) (by decide)), if_pos c_76, if_neg c_167, if_pos c_178]; rfl)
          · refine ab_iconst (pc := 181) (v := nI 2) dX11_count_181 (by decide) ?_
            refine ab_goto (pc := 182) (tgt := 186) dX11_count_182 (by decide) ?_
            refine mo_ir (pc := 186) dX11_count_186 rfl rfl ?_
            first | (rw [Fcount_43]; (try dsimp only); rw [if_pos c_47, if_neg (fun h => absurd (c_76.symm.trans h) (by decide)), if_neg (fun h => absurd (c_76.symm.trans h) (by decide)), if_neg (fun h => absurd (c_76.symm.trans h) (by decide)), if_pos c_76, if_neg c_167, if_neg c_178]; done) | (rw [Fcount_43]; (try dsimp only); rw [if_pos c_47, if_neg (fun h => absurd (c_76.symm.trans h) (by decide)), if_neg (fun h => absurd (c_76.symm.trans h) (by decide)), if_neg (fun h => absurd (c_76.symm.trans h) (by decide)), if_pos c_76, if_neg c_167, if_neg c_178]; rfl)
        · refine ab_iconst (pc := 170) (v := nI 0) dX11_count_170 (by decide) ?_
          refine ab_goto (pc := 171) (tgt := 186) dX11_count_171 (by decide) ?_
          refine mo_ir (pc := 186) dX11_count_186 rfl rfl ?_
          first | (rw [Fcount_43]; (try dsimp only); rw [if_pos c_47, if_neg (fun h => absurd (c_76.symm.trans h) (by decide)), if_neg (fun h => absurd (c_76.symm.trans h) (by decide)), if_neg (fun h => absurd (c_76.symm.trans h) (by decide)), if_pos c_76, if_pos c_167]; done) | (rw [Fcount_43]; (try dsimp only); rw [if_pos c_47, if_neg (fun h => absurd (c_76.symm.trans h) (by decide)), if_neg (fun h => absurd (c_76.symm.trans h) (by decide)), if_neg (fun h => absurd (c_76.symm.trans h) (by decide)), if_pos c_76, if_pos c_167]; rfl)
      · refine ab_aload_n (pc := 187) dX11_count_187 rfl rfl ?_
        refine mo_gi (pc := 188) dX11_count_188 fl_X11_125 rfl ?_
        refine mo_ir (pc := 191) dX11_count_191 rfl rfl ?_
        first | (rw [Fcount_43]; (try dsimp only); rw [if_pos c_47, if_neg (fun h => absurd (c_76.symm.trans h) (by decide)), if_neg (fun h => absurd (c_76.symm.trans h) (by decide)), if_neg (fun h => absurd (c_76.symm.trans h) (by decide)), if_neg (fun h => absurd (c_76.symm.trans h) (by decide)), if_pos c_76]; done) | (rw [Fcount_43]; (try dsimp only); rw [if_pos c_47, if_neg (fun h => absurd (c_76.symm.trans h) (by decide)), if_neg (fun h => absurd (c_76.symm.trans h) (by decide)), if_neg (fun h => absurd (c_76.symm.trans h) (by decide)), if_neg (fun h => absurd (c_76.symm.trans h) (by decide)), if_pos c_76]; rfl)
      · refine ab_aload_n (pc := 192) dX11_count_192 rfl rfl ?_
        refine mo_gi (pc := 193) dX11_count_193 fl_X11_122 rfl ?_
        refine ab_if_le (pc := 196) (tgt := 203) dX11_count_196 (by decide) (fun c_196 => ?_) (fun c_196 => ?_)
        · refine ab_iconst (pc := 203) (v := nI 0) dX11_count_203 (by decide) ?_
          refine mo_ir (pc := 204) dX11_count_204 rfl rfl ?_
          first | (rw [Fcount_43]; (try dsimp only); rw [if_pos c_47, if_neg (fun h => absurd (c_76.symm.trans h) (by decide)), if_neg (fun h => absurd (c_76.symm.trans h) (by decide)), if_neg (fun h => absurd (c_76.symm.trans h) (by decide)), if_neg (fun h => absurd (c_76.symm.trans h) (by decide)), if_neg (fun h => absurd (c_76.symm.trans h) (by decide)), if_pos c_76, if_pos c_196]; done) | (rw [Fcount_43]; (try dsimp only); rw [if_pos c_47, if_neg (fun h => absurd (c_76.symm.trans h) (by decide)), if_neg (fun h => absurd (c_76.symm.trans h) (by decide)), if_neg (fun h => absurd (c_76.symm.trans h) (by decide)), if_neg (fun h => absurd (c_76.symm.trans h) (by decide)), if_neg (fun h => absurd (c_76.symm.trans h) (by decide)), if_pos c_76, if_pos c_196]; rfl)
        · refine ab_iconst (pc := 199) (v := nI 1) dX11_count_199 (by decide) ?_
          refine ab_goto (pc := 200) (tgt := 204) dX11_count_200 (by decide) ?_
          refine mo_ir (pc := 204) dX11_count_204 rfl rfl ?_
          first | (rw [Fcount_43]; (try dsimp only); rw [if_pos c_47, if_neg (fun h => absurd (c_76.symm.trans h) (by decide)), if_neg (fun h => absurd (c_76.symm.trans h) (by decide)), if_neg (fun h => absurd (c_76.symm.trans h) (by decide)), if_neg (fun h => absurd (c_76.symm.trans h) (by decide)), if_neg (fun h => absurd (c_76.symm.trans h) (by decide)), if_pos c_76, if_neg c_196]; done) | (rw [Fcount_43]; (try dsimp only); rw [if_pos c_47, if_neg (fun h => absurd (c_76.symm.trans h) (by decide)), if_neg (fun h => absurd (c_76.symm.trans h) (by decide)), if_neg (fun h => absurd (c_76.symm.trans h) (by decide)), if_neg (fun h => absurd (c_76.symm.trans h) (by decide)), if_neg (fun h => absurd (c_76.symm.trans h) (by decide)), if_pos c_76, if_neg c_196]; rfl)
      · refine ab_aload_n (pc := 205) dX11_count_205 rfl rfl ?_
        refine mo_gi (pc := 206) dX11_count_206 fl_X11_166 rfl ?_
        refine ab_if_eq (pc := 209) (tgt := 216) dX11_count_209 (by decide) (fun c_209 => ?_) (fun c_209 => ?_)
        · refine ab_iconst (pc := 216) (v := nI 0) dX11_count_216 (by decide) ?_
          refine mo_ir (pc := 217) dX11_count_217 rfl rfl ?_
          first | (rw [Fcount_43]; (try dsimp only); rw [if_pos c_47, if_neg (fun h => absurd (c_76.symm.trans h) (by decide)), if_neg (fun h => absurd (c_76.symm.trans h) (by decide)), if_neg (fun h => absurd (c_76.symm.trans h) (by decide)), if_neg (fun h => absurd (c_76.symm.trans h) (by decide)), if_neg (fun h => absurd (c_76.symm.trans h) (by decide)), if_neg (fun h => absurd (c_76.symm.trans h) (by decide)), if_pos c_76, if_pos c_209]; done) | (rw [Fcount_43]; (try dsimp only); rw [if_pos c_47, if_neg (fun h => absurd (c_76.symm.trans h) (by decide)), if_neg (fun h => absurd (c_76.symm.trans h) (by decide)), if_neg (fun h => absurd (c_76.symm.trans h) (by decide)), if_neg (fun h => absurd (c_76.symm.trans h) (by decide)), if_neg (fun h => absurd (c_76.symm.trans h) (by decide)), if_neg (fun h => absurd (c_76.symm.trans h) (by decide)), if_pos c_76, if_pos c_209]; rfl)
        · refine ab_iconst (pc := 212) (v := nI 1) dX11_count_212 (by decide) ?_
          refine ab_goto (pc := 213) (tgt := 217) dX11_count_213 (by decide) ?_
          refine mo_ir (pc := 217) dX11_count_217 rfl rfl ?_
          first | (rw [Fcount_43]; (try dsimp only); rw [if_pos c_47, if_neg (fun h => absurd (c_76.symm.trans h) (by decide)), if_neg (fun h => absurd (c_76.symm.trans h) (by decide)), if_neg (fun h => absurd (c_76.symm.trans h) (by decide)), if_neg (fun h => absurd (c_76.symm.trans h) (by decide)), if_neg (fun h => absurd (c_76.symm.trans h) (by decide)), if_neg (fun h => absurd (c_76.symm.trans h) (by decide)), if_pos c_76, if_neg c_209]; done) | (rw [Fcount_43]; (try dsimp only); rw [if_pos c_47, if_neg (fun h => absurd (c_76.symm.trans h) (by decide)), if_neg (fun h => absurd (c_76.symm.trans h) (by decide)), if_neg (fun h => absurd (c_76.symm.trans h) (by decide)), if_neg (fun h => absurd (c_76.symm.trans h) (by decide)), if_neg (fun h => absurd (c_76.symm.trans h) (by decide)), if_neg (fun h => absurd (c_76.symm.trans h) (by decide)), if_pos c_76, if_neg c_209]; rfl)
      · refine ab_aload_n (pc := 218) dX11_count_218 rfl rfl ?_
        refine mo_gi (pc := 219) dX11_count_219 fl_X11_225 rfl ?_
        refine ab_if_eq (pc := 222) (tgt := 229) dX11_count_222 (by decide) (fun c_222 => ?_) (fun c_222 => ?_)
        · refine ab_iconst (pc := 229) (v := nI 0) dX11_count_229 (by decide) ?_
          refine mo_ir (pc := 230) dX11_count_230 rfl rfl ?_
          first | (rw [Fcount_43]; (try dsimp only); rw [if_pos c_47, if_neg (fun h => absurd (c_76.symm.trans h) (by decide)), if_neg (fun h => absurd (c_76.symm.trans h) (by decide)), if_neg (fun h => absurd (c_76.symm.trans h) (by decide)), if_neg (fun h => absurd (c_76.symm.trans h) (by decide)), if_neg (fun h => absurd (c_76.symm.trans h) (by decide)), if_neg (fun h => absurd (c_76.symm.trans h) (by decide)), if_neg (fun h => absurd (c_76.symm.trans h) (by decide)), if_pos c_76, if_pos c_222]; done) | (rw [Fcount_43]; (try dsimp only); rw [if_pos c_47, if_neg (fun h => absurd (c_76.symm.trans h) (by decide)), if_neg (fun h => absurd (c_76.symm.trans h) (by decide)), if_neg (fun h => absurd (c_76.symm.trans h) (by decide)), if_neg (fun h => absurd (c_76.symm.trans h) (by decide)), if_neg (fun h => absurd (c_76.symm.trans h) (by decide)), if_neg (fun h => absurd (c_76.symm.trans h) (by decide)), if_neg (fun h => absurd (c_76.symm.trans h) (by decide)), if_pos c_76, if_pos c_222]; rfl)
        · refine ab_iconst (pc := 225) (v := nI 1) dX11_count_225 (by decide) ?_
          refine ab_goto (pc := 226) (tgt := 230) dX11_count_226 (by decide) ?_
          refine mo_ir (pc := 230) dX11_count_230 rfl rfl ?_
          first | (rw [Fcount_43]; (try dsimp only); rw [if_pos c_47, if_neg (fun h => absurd (c_76.symm.trans h) (by decide)), if_neg (fun h => absurd (c_76.symm.trans h) (by decide)), if_neg (fun h => absurd (c_76.symm.trans h) (by decide)), if_neg (fun h => absurd (c_76.symm.trans h) (by decide)), if_neg (fun h => absurd (c_76.symm.trans h) (by decide)), if_neg (fun h => absurd (c_76.symm.trans h) (by decide)), if_neg (fun h => absurd (c_76.symm.trans h) (by decide)), if_pos c_76, if_neg c_222]; done) | (rw [Fcount_43]; (try dsimp only); rw [if_pos c_47, if_neg (fun h => absurd (c_76.symm.trans h) (by decide)), if_neg (fun h => absurd (c_76.symm.trans h) (by decide)), if_neg (fun h => absurd (c_76.symm.trans h) (by decide)), if_neg (fun h => absurd (c_76.symm.trans h) (by decide)), if_neg (fun h => absurd (c_76.symm.trans h) (by decide)), if_neg (fun h => absurd (c_76.symm.trans h) (by decide)), if_neg (fun h => absurd (c_76.symm.trans h) (by decide)), if_pos c_76, if_neg c_222]; rfl)
      · refine ab_aload_n (pc := 231) dX11_count_231 rfl rfl ?_
        refine mo_gi (pc := 232) dX11_count_232 fl_X11_131 rfl ?_
        refine mo_ir (pc := 235) dX11_count_235 rfl rfl ?_
        first | (rw [Fcount_43]; (try dsimp only); rw [if_pos c_47, if_neg (fun h => absurd (c_76.symm.trans h) (by decide)), if_neg (fun h => absurd (c_76.symm.trans h) (by decide)), if_neg (fun h => absurd (c_76.symm.trans h) (by decide)), if_neg (fun h => absurd (c_76.symm.trans h) (by decide)), if_neg (fun h => absurd (c_76.symm.trans h) (by decide)), if_neg (fun h => absurd (c_76.symm.trans h) (by decide)), if_neg (fun h => absurd (c_76.symm.trans h) (by decide)), if_neg (fun h => absurd (c_76.symm.trans h) (by decide)), if_pos c_76]; done) | (rw [Fcount_43]; (try dsimp only); rw [if_pos c_47, if_neg (fun h => absurd (c_76.symm.trans h) (by decide)), if_neg (fun h => absurd (c_76.symm.trans h) (by decide)), if_neg (fun h => absurd (c_76.symm.trans h) (by decide)), if_neg (fun h => absurd (c_76.symm.trans h) (by decide)), if_neg (fun h => absurd (c_76.symm.trans h) (by decide)), if_neg (fun h => absurd (c_76.symm.trans h) (by decide)), if_neg (fun h => absurd (c_76.symm.trans h) (by decide)), if_neg (fun h => absurd (c_76.symm.trans h) (by decide)), if_pos c_76]; rfl)
      · refine ab_aload_n (pc := 236) dX11_count_236 rfl rfl ?_
        refine mo_gi (pc := 237) dX11_count_237 fl_X11_26 rfl ?_
        refine mo_ir (pc := 240) dX11_count_240 rfl rfl ?_
        first | (rw [Fcount_43]; (try dsimp only); rw [if_pos c_47, if_neg (fun h => absurd (c_76.symm.trans h) (by decide)), if_neg (fun h => absurd (c_76.symm.trans h) (by decide)), if_neg (fun h => absurd (c_76.symm.trans h) (by decide)), if_neg (fun h => absurd (c_76.symm.trans h) (by decide)), if_neg (fun h => absurd (c_76.symm.trans h) (by decide)), if_neg (fun h => absurd (c_76.symm.trans h) (by decide)), if_neg (fun h => absurd (c_76.symm.trans h) (by decide)), if_neg (fun h => absurd (c_76.symm.trans h) (by decide)), if_neg (fun h => absurd (c_76.symm.trans h) (by decide)), if_pos c_76]; done) | (rw [Fcount_43]; (try dsimp only); rw [if_pos c_47, if_neg (fun h => absurd (c_76.symm.trans h) (by decide)), if_neg (fun h => absurd (c_76.symm.trans h) (by decide)), if_neg (fun h => absurd (c_76.symm.trans h) (by decide)), if_neg (fun h => absurd (c_76.symm.trans h) (by decide)), if_neg (fun h => absurd (c_76.symm.trans h) (by decide)), if_neg (fun h => absurd (c_76.symm.trans h) (by decide)), if_neg (fun h => absurd (c_76.symm.trans h) (by decide)), if_neg (fun h => absurd (c_76.symm.trans h) (by decide)), if_neg (fun h => absurd (c_76.symm.trans h) (by decide)), if_pos c_76]; rfl)
      · replace hD := hD.2.2.2.2.2.2.2.2.2.2.1 c_76
        refine ab_aload_n (pc := 241) dX11_count_241 rfl rfl ?_
        obtain ⟨o6, hD⟩ := hD
        refine mo_invr (N := mX11_filesThere) (pc := 242) (d' := 0) (av := []) dX11_count_242 ml_X11_209 fv_X11_filesThere (Nat.le_of_ble_eq_true rfl) (by decide) (c_filesThere  _ o6) ?_
        refine mo_ir (pc := 245) dX11_count_245 rfl rfl ?_
        first | (rw [Fcount_43]; (try dsimp only); rw [if_pos c_47, if_neg (fun h => absurd (c_76.symm.trans h) (by decide)), if_neg (fun h => absurd (c_76.symm.trans h) (by decide)), if_neg (fun h => absurd (c_76.symm.trans h) (by decide)), if_neg (fun h => absurd (c_76.symm.trans h) (by decide)), if_neg (fun h => absurd (c_76.symm.trans h) (by decide)), if_neg (fun h => absurd (c_76.symm.trans h) (by decide)), if_neg (fun h => absurd (c_76.symm.trans h) (by decide)), if_neg (fun h => absurd (c_76.symm.trans h) (by decide)), if_neg (fun h => absurd (c_76.symm.trans h) (by decide)), if_neg (fun h => absurd (c_76.symm.trans h) (by decide)), if_pos c_76]; done) | (rw [Fcount_43]; (try dsimp only); rw [if_pos c_47, if_neg (fun h => absurd (c_76.symm.trans h) (by decide)), if_neg (fun h => absurd (c_76.symm.trans h) (by decide)), if_neg (fun h => absurd (c_76.symm.trans h) (by decide)), if_neg (fun h => absurd (c_76.symm.trans h) (by decide)), if_neg (fun h => absurd (c_76.symm.trans h) (by decide)), if_neg (fun h => absurd (c_76.symm.trans h) (by decide)), if_neg (fun h => absurd (c_76.symm.trans h) (by decide)), if_neg (fun h => absurd (c_76.symm.trans h) (by decide)), if_neg (fun h => absurd (c_76.symm.trans h) (by decide)), if_neg (fun h => absurd (c_76.symm.trans h) (by decide)), if_pos c_76]; rfl)
      · refine ab_iload_n (pc := 246) dX11_count_246 rfl rfl ?_
        refine mo_ir (pc := 247) dX11_count_247 rfl rfl ?_
        first | (rw [Fcount_43]; (try dsimp only); rw [if_pos c_47, if_neg (fun h => absurd (c_76.symm.trans h) (by decide)), if_neg (fun h => absurd (c_76.symm.trans h) (by decide)), if_neg (fun h => absurd (c_76.symm.trans h) (by decide)), if_neg (fun h => absurd (c_76.symm.trans h) (by decide)), if_neg (fun h => absurd (c_76.symm.trans h) (by decide)), if_neg (fun h => absurd (c_76.symm.trans h) (by decide)), if_neg (fun h => absurd (c_76.symm.trans h) (by decide)), if_neg (fun h => absurd (c_76.symm.trans h) (by decide)), if_neg (fun h => absurd (c_76.symm.trans h) (by decide)), if_neg (fun h => absurd (c_76.symm.trans h) (by decide)), if_neg (fun h => absurd (c_76.symm.trans h) (by decide)), if_pos c_76]; done) | (rw [Fcount_43]; (try dsimp only); rw [if_pos c_47, if_neg (fun h => absurd (c_76.symm.trans h) (by decide)), if_neg (fun h => absurd (c_76.symm.trans h) (by decide)), if_neg (fun h => absurd (c_76.symm.trans h) (by decide)), if_neg (fun h => absurd (c_76.symm.trans h) (by decide)), if_neg (fun h => absurd (c_76.symm.trans h) (by decide)), if_neg (fun h => absurd (c_76.symm.trans h) (by decide)), if_neg (fun h => absurd (c_76.symm.trans h) (by decide)), if_neg (fun h => absurd (c_76.symm.trans h) (by decide)), if_neg (fun h => absurd (c_76.symm.trans h) (by decide)), if_neg (fun h => absurd (c_76.symm.trans h) (by decide)), if_neg (fun h => absurd (c_76.symm.trans h) (by decide)), if_pos c_76]; rfl)
      · refine ab_iload_n (pc := 248) dX11_count_248 rfl rfl ?_
        refine mo_ir (pc := 249) dX11_count_249 rfl rfl ?_
        first | (rw [Fcount_43]; (try dsimp only); rw [if_pos c_47, if_neg (fun h => absurd (c_76.symm.trans h) (by decide)), if_neg (fun h => absurd (c_76.symm.trans h) (by decide)), if_neg (fun h => absurd (c_76.symm.trans h) (by decide)), if_neg (fun h => absurd (c_76.symm.trans h) (by decide)), if_neg (fun h => absurd (c_76.symm.trans h) (by decide)), if_neg (fun h => absurd (c_76.symm.trans h) (by decide)), if_neg (fun h => absurd (c_76.symm.trans h) (by decide)), if_neg (fun h => absurd (c_76.symm.trans h) (by decide)), if_neg (fun h => absurd (c_76.symm.trans h) (by decide)), if_neg (fun h => absurd (c_76.symm.trans h) (by decide)), if_neg (fun h => absurd (c_76.symm.trans h) (by decide)), if_neg (fun h => absurd (c_76.symm.trans h) (by decide)), if_pos c_76]; done) | (rw [Fcount_43]; (try dsimp only); rw [if_pos c_47, if_neg (fun h => absurd (c_76.symm.trans h) (by decide)), if_neg (fun h => absurd (c_76.symm.trans h) (by decide)), if_neg (fun h => absurd (c_76.symm.trans h) (by decide)), if_neg (fun h => absurd (c_76.symm.trans h) (by decide)), if_neg (fun h => absurd (c_76.symm.trans h) (by decide)), if_neg (fun h => absurd (c_76.symm.trans h) (by decide)), if_neg (fun h => absurd (c_76.symm.trans h) (by decide)), if_neg (fun h => absurd (c_76.symm.trans h) (by decide)), if_neg (fun h => absurd (c_76.symm.trans h) (by decide)), if_neg (fun h => absurd (c_76.symm.trans h) (by decide)), if_neg (fun h => absurd (c_76.symm.trans h) (by decide)), if_neg (fun h => absurd (c_76.symm.trans h) (by decide)), if_pos c_76]; rfl)
      · refine ab_aload_n (pc := 250) dX11_count_250 rfl rfl ?_
        refine mo_gi (pc := 251) dX11_count_251 fl_X11_44 rfl ?_
        refine mo_ir (pc := 254) dX11_count_254 rfl rfl ?_
        first | (rw [Fcount_43]; (try dsimp only); rw [if_pos c_47, if_neg (fun h => absurd (c_76.symm.trans h) (by decide)), if_neg (fun h => absurd (c_76.symm.trans h) (by decide)), if_neg (fun h => absurd (c_76.symm.trans h) (by decide)), if_neg (fun h => absurd (c_76.symm.trans h) (by decide)), if_neg (fun h => absurd (c_76.symm.trans h) (by decide)), if_neg (fun h => absurd (c_76.symm.trans h) (by decide)), if_neg (fun h => absurd (c_76.symm.trans h) (by decide)), if_neg (fun h => absurd (c_76.symm.trans h) (by decide)), if_neg (fun h => absurd (c_76.symm.trans h) (by decide)), if_neg (fun h => absurd (c_76.symm.trans h) (by decide)), if_neg (fun h => absurd (c_76.symm.trans h) (by decide)), if_neg (fun h => absurd (c_76.symm.trans h) (by decide)), if_neg (fun h => absurd (c_76.symm.trans h) (by decide)), if_pos c_76]; done) | (rw [Fcount_43]; (try dsimp only); rw [if_pos c_47, if_neg (fun h => absurd (c_76.symm.trans h) (by decide)), if_neg (fun h => absurd (c_76.symm.trans h) (by decide)), if_neg (fun h => absurd (c_76.symm.trans h) (by decide)), if_neg (fun h => absurd (c_76.symm.trans h) (by decide)), if_neg (fun h => absurd (c_76.symm.trans h) (by decide)), if_neg (fun h => absurd (c_76.symm.trans h) (by decide)), if_neg (fun h => absurd (c_76.symm.trans h) (by decide)), if_neg (fun h => absurd (c_76.symm.trans h) (by decide)), if_neg (fun h => absurd (c_76.symm.trans h) (by decide)), if_neg (fun h => absurd (c_76.symm.trans h) (by decide)), if_neg (fun h => absurd (c_76.symm.trans h) (by decide)), if_neg (fun h => absurd (c_76.symm.trans h) (by decide)), if_neg (fun h => absurd (c_76.symm.trans h) (by decide)), if_pos c_76]; rfl)
      · refine ab_iconst (pc := 255) (v := -1) dX11_count_255 (by decide) ?_
        refine mo_ir (pc := 256) dX11_count_256 rfl rfl ?_
        first | (rw [Fcount_43]; (try dsimp only); rw [if_pos c_47, if_neg (c_76 _ (List.mem_of_getElem? (i := 0) rfl)), if_neg (c_76 _ (List.mem_of_getElem? (i := 1) rfl)), if_neg (c_76 _ (List.mem_of_getElem? (i := 2) rfl)), if_neg (c_76 _ (List.mem_of_getElem? (i := 3) rfl)), if_neg (c_76 _ (List.mem_of_getElem? (i := 4) rfl)), if_neg (c_76 _ (List.mem_of_getElem? (i := 5) rfl)), if_neg (c_76 _ (List.mem_of_getElem? (i := 6) rfl)), if_neg (c_76 _ (List.mem_of_getElem? (i := 7) rfl)), if_neg (c_76 _ (List.mem_of_getElem? (i := 8) rfl)), if_neg (c_76 _ (List.mem_of_getElem? (i := 9) rfl)), if_neg (c_76 _ (List.mem_of_getElem? (i := 10) rfl)), if_neg (c_76 _ (List.mem_of_getElem? (i := 11) rfl)), if_neg (c_76 _ (List.mem_of_getElem? (i := 12) rfl)), if_neg (c_76 _ (List.mem_of_getElem? (i := 13) rfl))]; done) | (rw [Fcount_43]; (try dsimp only); rw [if_pos c_47, if_neg (c_76 _ (List.mem_of_getElem? (i := 0) rfl)), if_neg (c_76 _ (List.mem_of_getElem? (i := 1) rfl)), if_neg (c_76 _ (List.mem_of_getElem? (i := 2) rfl)), if_neg (c_76 _ (List.mem_of_getElem? (i := 3) rfl)), if_neg (c_76 _ (List.mem_of_getElem? (i := 4) rfl)), if_neg (c_76 _ (List.mem_of_getElem? (i := 5) rfl)), if_neg (c_76 _ (List.mem_of_getElem? (i := 6) rfl)), if_neg (c_76 _ (List.mem_of_getElem? (i := 7) rfl)), if_neg (c_76 _ (List.mem_of_getElem? (i := 8) rfl)), if_neg (c_76 _ (List.mem_of_getElem? (i := 9) rfl)), if_neg (c_76 _ (List.mem_of_getElem? (i := 10) rfl)), if_neg (c_76 _ (List.mem_of_getElem? (i := 11) rfl)), if_neg (c_76 _ (List.mem_of_getElem? (i := 12) rfl)), if_neg (c_76 _ (List.mem_of_getElem? (i := 13) rfl))]; rfl)
    · replace hD := hD.2 c_47
      refine ab_iload_n (pc := 50) dX11_count_50 rfl rfl ?_
      refine ab_aload_n (pc := 51) dX11_count_51 rfl rfl ?_
      refine mo_gr (pc := 52) dX11_count_52 fl_X11_19 rfl rfl ?_
      refine ab_iload (pc := 55) dX11_count_55 rfl ?_
      obtain ⟨o7, hD⟩ := hD
      refine mo_ild (pc := 57) dX11_count_57 (by decide) rfl o7 (by decide) ?_
      refine ab_iconst (pc := 58) (v := nI 1) dX11_count_58 (by decide) ?_
      refine ab_icmp_ne (pc := 59) (tgt := 66) dX11_count_59 (by decide) (fun c_59 => ?_) (fun c_59 => ?_)
      · replace hD := hD.2 c_59
        refine ab_iconst (pc := 66) (v := nI 0) dX11_count_66 (by decide) ?_
        refine ab_iadd (pc := 67) dX11_count_67 ?_
        refine ab_istore_n (pc := 68) dX11_count_68 rfl (Nat.le_of_ble_eq_true rfl) rfl ?_
        refine ab_iinc (pc := 69) dX11_count_69 rfl (ab_inc _) (Nat.le_of_ble_eq_true rfl) rfl ?_
        refine ab_goto (pc := 72) (tgt := 43) dX11_count_72 (by decide) ?_
        refine mo_eqi ?_ (ih _ _ _ _ _ hD)
        first | (rw [Fcount_43]; (try dsimp only); rw [if_neg c_47, if_neg c_59]; done) | (rw [Fcount_43]; (try dsimp only); rw [if_neg c_47, if_neg c_59]; rfl)
      · replace hD := hD.1 c_59
        refine ab_iconst (pc := 62) (v := nI 1) dX11_count_62 (by decide) ?_
        refine ab_goto (pc := 63) (tgt := 67) dX11_count_63 (by decide) ?_
        refine ab_iadd (pc := 67) dX11_count_67 ?_
        refine ab_istore_n (pc := 68) dX11_count_68 rfl (Nat.le_of_ble_eq_true rfl) rfl ?_
        refine ab_iinc (pc := 69) dX11_count_69 rfl (ab_inc _) (Nat.le_of_ble_eq_true rfl) rfl ?_
        refine ab_goto (pc := 72) (tgt := 43) dX11_count_72 (by decide) ?_
        refine mo_eqi ?_ (ih _ _ _ _ _ hD)
        first | (rw [Fcount_43]; (try dsimp only); rw [if_neg c_47, if_pos c_59]; done) | (rw [Fcount_43]; (try dsimp only); rw [if_neg c_47, if_pos c_59]; rfl)
def Fcount_9 : Nat → Int32 → Int32 → Nat → mD → Int32 × mD
  | 0, _, _, _, m => (0, m)
  | n + 1, w, a2, a3, m =>
    if 24 ≤ a3 then
      Fcount_43 25 w (a2) (nI (0)) 4 m
    else
      if (m 19 a3) = 0 then
        Fcount_9 n w ((a2) + (nI (1))) (a3 + 1) m
      else
        Fcount_9 n w ((a2) + (nI (0))) (a3 + 1) m
def Dcount_9 : Nat → Int32 → Int32 → Nat → mD → Prop
  | 0, _, _, _, _ => False
  | n + 1, w, a2, a3, m =>
    (a3 < 2147483648) ∧
    ((24 ≤ a3) →
      Dcount_43 25 w (a2) (nI (0)) 4 m) ∧
    (¬ (24 ≤ a3) →
      (a3 < 24) ∧
      (((m 19 a3) = 0) →
        Dcount_9 n w ((a2) + (nI (1))) (a3 + 1) m) ∧
      (¬ ((m 19 a3) = 0) →
        Dcount_9 n w ((a2) + (nI (0))) (a3 + 1) m))
set_option maxRecDepth 100000 in
set_option maxHeartbeats 4000000 in
theorem w_count_9 {tt : Prop} : ∀ (n : Nat) (w : Int32) (a2 : Int32) (a3 : Nat) (m : mD) (hD : Dcount_9 n w a2 a3 m), mV mX11_count 1 tt (mQi (Fcount_9 n w a2 a3 m)) 9 [some (.ref (0)), some (.int (w)), some (.int (a2)), some (.int (nI (a3))), none] [] m := by
  intro n
  induction n with
  | zero => intros; rename_i hD; exact hD.elim
  | succ n ih =>
    intro w a2 a3 m hD
    refine ab_iload_n (pc := 9) dX11_count_9 rfl rfl ?_
    refine ab_bipush (pc := 10) (v := nI 24) dX11_count_10 (by decide) ?_
    obtain ⟨o2, hD⟩ := hD
    refine ab_icmp_geN (pc := 12) (tgt := 38) dX11_count_12 (by decide) o2 (by decide) (fun c_12 => ?_) (fun c_12 => ?_)
    · replace hD := hD.1 c_12
      refine ab_iconst (pc := 38) (v := nI 0) dX11_count_38 (by decide) ?_
      refine ab_istore_n (pc := 39) dX11_count_39 rfl (Nat.le_of_ble_eq_true rfl) rfl ?_
      refine ab_iconst (pc := 40) (v := nI 4) dX11_count_40 (by decide) ?_
      refine ab_istore (pc := 41) dX11_count_41 (Nat.le_of_ble_eq_true rfl) rfl ?_
      refine mo_eqi ?_ (w_count_43 25 _ _ _ _ _ hD)
      first | (rw [Fcount_9]; (try dsimp only); rw [if_pos c_12]; done) | (rw [Fcount_9]; (try dsimp only); rw [if_pos c_12]; rfl)
    · replace hD := hD.2 c_12
      refine ab_iload_n (pc := 15) dX11_count_15 rfl rfl ?_
      refine ab_aload_n (pc := 16) dX11_count_16 rfl rfl ?_
      refine mo_gr (pc := 17) dX11_count_17 fl_X11_107 rfl rfl ?_
      refine ab_iload_n (pc := 20) dX11_count_20 rfl rfl ?_
      obtain ⟨o3, hD⟩ := hD
      refine mo_zld (pc := 21) dX11_count_21 (by decide) rfl o3 (by decide) ?_
      refine ab_if_eq (pc := 22) (tgt := 29) dX11_count_22 (by decide) (fun c_22 => ?_) (fun c_22 => ?_)
      · replace hD := hD.1 c_22
        refine ab_iconst (pc := 29) (v := nI 1) dX11_count_29 (by decide) ?_
        refine ab_iadd (pc := 30) dX11_count_30 ?_
        refine ab_istore_n (pc := 31) dX11_count_31 rfl (Nat.le_of_ble_eq_true rfl) rfl ?_
        refine ab_iinc (pc := 32) dX11_count_32 rfl (ab_inc _) (Nat.le_of_ble_eq_true rfl) rfl ?_
        refine ab_goto (pc := 35) (tgt := 9) dX11_count_35 (by decide) ?_
        refine ab_wk (ls2 := [some _, some _, some _, some _, none]) (And.intro rfl (And.intro rfl (And.intro rfl (And.intro rfl trivial)))) ?_
        refine mo_eqi ?_ (ih _ _ _ _ hD)
        first | (rw [Fcount_9]; (try dsimp only); rw [if_neg c_12, if_pos c_22]; done) | (rw [Fcount_9]; (try dsimp only); rw [if_neg c_12, if_pos c_22]; rfl)
      · replace hD := hD.2 c_22
        refine ab_iconst (pc := 25) (v := nI 0) dX11_count_25 (by decide) ?_
        refine ab_goto (pc := 26) (tgt := 30) dX11_count_26 (by decide) ?_
        refine ab_iadd (pc := 30) dX11_count_30 ?_
        refine ab_istore_n (pc := 31) dX11_count_31 rfl (Nat.le_of_ble_eq_true rfl) rfl ?_
        refine ab_iinc (pc := 32) dX11_count_32 rfl (ab_inc _) (Nat.le_of_ble_eq_true rfl) rfl ?_
        refine ab_goto (pc := 35) (tgt := 9) dX11_count_35 (by decide) ?_
        refine ab_wk (ls2 := [some _, some _, some _, some _, none]) (And.intro rfl (And.intro rfl (And.intro rfl (And.intro rfl trivial)))) ?_
        refine mo_eqi ?_ (ih _ _ _ _ hD)
        first | (rw [Fcount_9]; (try dsimp only); rw [if_neg c_12, if_neg c_22]; done) | (rw [Fcount_9]; (try dsimp only); rw [if_neg c_12, if_neg c_22]; rfl)
def Fcount (w : Int32) (m : mD) : Int32 × mD :=
  let m1 := ab_up m 0 0 (nI (0))
  Fcount_9 25 w (nI (0)) 0 m1
def Dcount (w : Int32) (m : mD) : Prop :=
  let m1 := ab_up m 0 0 (nI (0))
  Dcount_9 25 w (nI (0)) 0 m1
set_option maxRecDepth 100000 in
set_option maxHeartbeats 4000000 in
theorem c_count {tt : Prop} (w : Int32) (m : mD) (hD : Dcount w m) : ab_Met mX11_count 1 0 0 tt [.ref (0), .int (w)] (sM m) (mQi (Fcount w m)) := by
  refine ab_Met.of rfl (Nat.le_of_ble_eq_true rfl) ?_
  show mV mX11_count 1 tt (mQi (Fcount w m)) 0 [some (.ref (0)), some (.int (w)), none, none, none] [] m
  refine ab_aload_n (pc := 0) dX11_count_0 rfl rfl ?_
  refine ab_iconst (pc := 1) (v := nI 0) dX11_count_1 (by decide) ?_
  refine mo_pi (pc := 2) dX11_count_2 fl_X11_1 rfl rfl (ab_ok_i _) ?_
  refine ab_iconst (pc := 5) (v := nI 0) dX11_count_5 (by decide) ?_
  refine ab_istore_n (pc := 6) dX11_count_6 rfl (Nat.le_of_ble_eq_true rfl) rfl ?_
  refine ab_iconst (pc := 7) (v := nI 0) dX11_count_7 (by decide) ?_
  refine ab_istore_n (pc := 8) dX11_count_8 rfl (Nat.le_of_ble_eq_true rfl) rfl ?_
  refine ab_wk (ls2 := [some _, some _, some _, some _, none]) (And.intro rfl (And.intro rfl (And.intro rfl (And.intro rfl trivial)))) ?_
  refine mo_eqi ?_ (w_count_9 25 _ _ _ _ hD)
  first | rfl | (rw [Fcount]; done) | (rw [Fcount]; rfl)
