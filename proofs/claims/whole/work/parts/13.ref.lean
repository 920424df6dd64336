def Fforks_2 : Nat → Nat → Nat → mD → mD
  | 0, _, _, m => m
  | n + 1, u, a2, m =>
    if 12 ≤ a2 then
      if a2 = 12 then
        let z9 := Ftells 3 u (-9) m
        z9
      else
        let z3 := Fholds (nI (8)) (nI (u)) (nI (a2)) m
        let z5 := Fdrafts (nI (30)) (nI (u)) (nI (a2)) z3
        let z7 := Fsends 3 2 z5
        z7
    else
      if (m 7 a2) = 0 then
        if a2 = 12 then
          let z18 := Ftells 3 u (-9) m
          z18
        else
          let z12 := Fholds (nI (8)) (nI (u)) (nI (a2)) m
          let z14 := Fdrafts (nI (30)) (nI (u)) (nI (a2)) z12
          let z16 := Fsends 3 2 z14
          z16
      else
        Fforks_2 n u (a2 + 1) m
def Dforks_2 : Nat → Nat → Nat → mD → Prop
  | 0, _, _, _ => False
  | n + 1, u, a2, m =>
    (a2 < 2147483648) ∧
    ((12 ≤ a2) →
      (a2 < 2147483648) ∧
      ((a2 = 12) →
        (Dtells 3 u (-9) m) ∧
        let z9 := Ftells 3 u (-9) m
        True) ∧
      (¬ (a2 = 12) →
        let z3 := Fholds (nI (8)) (nI (u)) (nI (a2)) m
        (Ddrafts (nI (30)) (nI (u)) (nI (a2)) z3) ∧
        let z5 := Fdrafts (nI (30)) (nI (u)) (nI (a2)) z3
        (Dsends 3 2 z5) ∧
        let z7 := Fsends 3 2 z5
        True)) ∧
    (¬ (12 ≤ a2) →
      (a2 < 12) ∧
      (((m 7 a2) = 0) →
        (a2 < 2147483648) ∧
        ((a2 = 12) →
          (Dtells 3 u (-9) m) ∧
          let z18 := Ftells 3 u (-9) m
          True) ∧
        (¬ (a2 = 12) →
          let z12 := Fholds (nI (8)) (nI (u)) (nI (a2)) m
          (Ddrafts (nI (30)) (nI (u)) (nI (a2)) z12) ∧
          let z14 := Fdrafts (nI (30)) (nI (u)) (nI (a2)) z12
          (Dsends 3 2 z14) ∧
          let z16 := Fsends 3 2 z14
          True)) ∧
      (¬ ((m 7 a2) = 0) →
        Dforks_2 n u (a2 + 1) m))
set_option maxRecDepth 100000 in
set_option maxHeartbeats 4000000 in
theorem w_forks_2 {tt : Prop} : ∀ (n : Nat) (u : Nat) (a2 : Nat) (m : mD) (hD : Dforks_2 n u a2 m), mV mX11_forks 5 tt (mQv (Fforks_2 n u a2 m)) 2 [some (.ref (0)), some (.int (nI (u))), some (.int (nI (a2)))] [] m := by
  intro n
  induction n with
  | zero => intros; rename_i hD; exact hD.elim
  | succ n ih =>
    intro u a2 m hD
    refine ab_iload_n (pc := 2) dX11_forks_2 rfl rfl ?_
    refine ab_bipush (pc := 3) (v := nI 12) dX11_forks_3 (by decide) ?_
    obtain ⟨o1, hD⟩ := hD
    refine ab_icmp_geN (pc := 5) (tgt := 23) dX11_forks_5 (by decide) o1 (by decide) (fun c_5 => ?_) (fun c_5 => ?_)
    · replace hD := hD.1 c_5
      refine ab_iload_n (pc := 23) dX11_forks_23 rfl rfl ?_
      refine ab_bipush (pc := 24) (v := nI 12) dX11_forks_24 (by decide) ?_
      obtain ⟨o2, hD⟩ := hD
      refine ab_icmp_neN (pc := 26) (tgt := 38) dX11_forks_26 (by decide) o2 (by decide) (fun c_26 => ?_) (fun c_26 => ?_)
      · replace hD := hD.2 c_26
        refine ab_aload_n (pc := 38) dX11_forks_38 rfl rfl ?_
        refine ab_bipush (pc := 39) (v := nI 8) dX11_forks_39 (by decide) ?_
        refine ab_iload_n (pc := 41) dX11_forks_41 rfl rfl ?_
        refine ab_iload_n (pc := 42) dX11_forks_42 rfl rfl ?_
        refine mo_invv (N := mX11_holds) (pc := 43) (d' := 0) (av := [_, _, _]) dX11_forks_43 ml_X11_245 fv_X11_holds (Nat.le_of_ble_eq_true rfl) (by decide) (c_holds _ _ _ _ trivial) ?_
        refine ab_aload_n (pc := 46) dX11_forks_46 rfl rfl ?_
        refine ab_bipush (pc := 47) (v := nI 30) dX11_forks_47 (by decide) ?_
        refine ab_iload_n (pc := 49) dX11_forks_49 rfl rfl ?_
        refine ab_iload_n (pc := 50) dX11_forks_50 rfl rfl ?_
        obtain ⟨o4, hD⟩ := hD
        refine mo_invv (N := mX11_drafts) (pc := 51) (d' := 0) (av := [_, _, _]) dX11_forks_51 ml_X11_152 fv_X11_drafts (Nat.le_of_ble_eq_true rfl) (by decide) (c_drafts _ _ _ _ o4) ?_
        refine ab_aload_n (pc := 54) dX11_forks_54 rfl rfl ?_
        refine ab_iconst (pc := 55) (v := nI 3) dX11_forks_55 (by decide) ?_
        refine ab_iconst (pc := 56) (v := nI 2) dX11_forks_56 (by decide) ?_
        obtain ⟨o6, hD⟩ := hD
        refine mo_invv (N := mX11_sends) (pc := 57) (d' := 3) (av := [_, _]) dX11_forks_57 ml_X11_57 fv_X11_sends (Nat.le_of_ble_eq_true rfl) (by decide) (c_sends _ _ _ o6) ?_
        refine mo_vr (pc := 60) dX11_forks_60 rfl ?_
        first | (rw [Fforks_2]; (try dsimp only); rw [if_pos c_5, if_neg c_26]; done) | (rw [Fforks_2]; (try dsimp only); rw [if_pos c_5, if_neg c_26]; rfl)
      · replace hD := hD.1 c_26
        refine ab_aload_n (pc := 29) dX11_forks_29 rfl rfl ?_
        refine ab_iconst (pc := 30) (v := nI 3) dX11_forks_30 (by decide) ?_
        refine ab_iload_n (pc := 31) dX11_forks_31 rfl rfl ?_
        refine ab_bipush (pc := 32) (v := -9) dX11_forks_32 (by decide) ?_
        obtain ⟨o8, hD⟩ := hD
        refine mo_invv (N := mX11_tells) (pc := 34) (d' := 4) (av := [_, _, _]) dX11_forks_34 ml_X11_196 fv_X11_tells (Nat.le_of_ble_eq_true rfl) (by decide) (c_tells _ _ _ _ o8) ?_
        refine mo_vr (pc := 37) dX11_forks_37 rfl ?_
        first | (rw [Fforks_2]; (try dsimp only); rw [if_pos c_5, if_pos c_26]; done) | (rw [Fforks_2]; (try dsimp only); rw [if_pos c_5, if_pos c_26]; rfl)
    · replace hD := hD.2 c_5
      refine ab_aload_n (pc := 8) dX11_forks_8 rfl rfl ?_
      refine mo_gr (pc := 9) dX11_forks_9 fl_X11_19 rfl rfl ?_
      refine ab_iload_n (pc := 12) dX11_forks_12 rfl rfl ?_
      obtain ⟨o10, hD⟩ := hD
      refine mo_ild (pc := 13) dX11_forks_13 (by decide) rfl o10 (by decide) ?_
      refine ab_if_eq (pc := 14) (tgt := 23) dX11_forks_14 (by decide) (fun c_14 => ?_) (fun c_14 => ?_)
      · replace hD := hD.1 c_14
        refine ab_iload_n (pc := 23) dX11_forks_23 rfl rfl ?_
        refine ab_bipush (pc := 24) (v := nI 12) dX11_forks_24 (by decide) ?_
        obtain ⟨o11, hD⟩ := hD
        refine ab_icmp_neN (pc := 26) (tgt := 38) dX11_forks_26 (by decide) o11 (by decide) (fun c_26 => ?_) (fun c_26 => ?_)
        · replace hD := hD.2 c_26
          refine ab_aload_n (pc := 38) dX11_forks_38 rfl rfl ?_
          refine ab_bipush (pc := 39) (v := nI 8) dX11_forks_39 (by decide) ?_
          refine ab_iload_n (pc := 41) dX11_forks_41 rfl rfl ?_
          refine ab_iload_n (pc := 42) dX11_forks_42 rfl rfl ?_
          refine mo_invv (N := mX11_holds) (pc := 43) (d' := 0) (av := [_, _, _]) dX11_forks_43 ml_X11_245 fv_X11_holds (Nat.le_of_ble_eq_true rfl) (by decide) (c_holds _ _ _ _ trivial) ?_
          refine ab_aload_n (pc := 46) dX11_forks_46 rfl rfl ?_
          refine ab_bipush (pc := 47) (v := nI 30) dX11_forks_47 (by decide) ?_
          refine ab_iload_n (pc := 49) dX11_forks_49 rfl rfl ?_
          refine ab_iload_n (pc := 50) dX11_forks_50 rfl rfl ?_
          obtain ⟨o13, hD⟩ := hD
          refine mo_invv (N := mX11_drafts) (pc := 51) (d' := 0) (av := [_, _, _]) dX11_forks_51 ml_X11_152 fv_X11_drafts (Nat.le_of_ble_eq_true rfl) (by decide) (c_drafts _ _ _ _ o13) ?_
          refine ab_aload_n (pc := 54) dX11_forks_54 rfl rfl ?_
          refine ab_iconst (pc := 55) (v := nI 3) dX11_forks_55 (by decide) ?_
          refine ab_iconst (pc := 56) (v := nI 2) dX11_forks_56 (by decide) ?_
          obtain ⟨o15, hD⟩ := hD
          refine mo_invv (N := mX11_sends) (pc := 57) (d' := 3) (av := [_, _]) dX11_forks_57 ml_X11_57 fv_X11_sends (Nat.le_of_ble_eq_true rfl) (by decide) (c_sends _ _ _ o15) ?_
          refine mo_vr (pc := 60) dX11_forks_60 rfl ?_
          first | (rw [Fforks_2]; (try dsimp only); rw [if_neg c_5, if_pos c_14, if_neg c_26]; done) | (rw [Fforks_2]; (try dsimp only); rw [if_neg c_5, if_pos c_14, if_neg c_26]; rfl)
        · replace hD := hD.1 c_26
          refine ab_aload_n (pc := 29) dX11_forks_29 rfl rfl ?_
          refine ab_iconst (pc := 30) (v := nI 3) dX11_forks_30 (by decide) ?_
          refine ab_iload_n (pc := 31) dX11_forks_31 rfl rfl ?_
          refine ab_bipush (pc := 32) (v := -9) dX11_forks_32 (by decide) ?_
          obtain ⟨o17, hD⟩ := hD
          refine mo_invv (N := mX11_tells) (pc := 34) (d' := 4) (av := [_, _, _]) dX11_forks_34 ml_X11_196 fv_X11_tells (Nat.le_of_ble_eq_true rfl) (by decide) (c_tells _ _ _ _ o17) ?_
          refine mo_vr (pc := 37) dX11_forks_37 rfl ?_
          first | (rw [Fforks_2]; (try dsimp only); rw [if_neg c_5, if_pos c_14, if_pos c_26]; done) | (rw [Fforks_2]; (try dsimp only); rw [if_neg c_5, if_pos c_14, if_pos c_26]; rfl)
      · replace hD := hD.2 c_14
        refine ab_iinc (pc := 17) dX11_forks_17 rfl (ab_inc _) (Nat.le_of_ble_eq_true rfl) rfl ?_
        refine ab_goto (pc := 20) (tgt := 2) dX11_forks_20 (by decide) ?_
        refine mo_eqv ?_ (ih _ _ _ hD)
        first | (rw [Fforks_2]; (try dsimp only); rw [if_neg c_5, if_neg c_14]; done) | (rw [Fforks_2]; (try dsimp only); rw [if_neg c_5, if_neg c_14]; rfl)
def Fforks (u : Nat) (m : mD) : mD :=
  Fforks_2 9 u 5 m
def Dforks (u : Nat) (m : mD) : Prop :=
  Dforks_2 9 u 5 m
set_option maxRecDepth 100000 in
set_option maxHeartbeats 4000000 in
theorem c_forks {tt : Prop} (u : Nat) (m : mD) (hD : Dforks u m) : ab_Met mX11_forks 5 0 0 tt [.ref (0), .int (nI (u))] (sM m) (mQv (Fforks u m)) := by
  refine ab_Met.of rfl (Nat.le_of_ble_eq_true rfl) ?_
  show mV mX11_forks 5 tt (mQv (Fforks u m)) 0 [some (.ref (0)), some (.int (nI (u))), none] [] m
  refine ab_iconst (pc := 0) (v := nI 5) dX11_forks_0 (by decide) ?_
  refine ab_istore_n (pc := 1) dX11_forks_1 rfl (Nat.le_of_ble_eq_true rfl) rfl ?_
  refine mo_eqv ?_ (w_forks_2 9 _ _ _ hD)
  first | rfl | (rw [Fforks]; done) | (rw [Fforks]; rfl)
def Fends_55_3 : Nat → Int32 → Nat → Int32 → Int32 → Int32 → mD → mD
  | 0, _, _, _, _, _, m => m
  | n + 1, y, u, w, k, a6, m =>
    if (a6) < 0 then
      let z18 := Fholds (k) (y) (nI (u)) m
      let z20 := Fdrafts (nI (31)) (nI (u)) (nI (0)) z18
      let z22 := Fsends 3 2 z20
      z22
    else
      if (Ffield 3 ((a6).toNatClampNeg) 0 m) = (nI (u)) then
        let z27 := Fdrop 3 ((a6).toNatClampNeg) m
        Fends_55_3 n y u w k ((a6) + (-1)) z27
      else
        Fends_55_3 n y u w k ((a6) + (-1)) m
def Dends_55_3 : Nat → Int32 → Nat → Int32 → Int32 → Int32 → mD → Prop
  | 0, _, _, _, _, _, _ => False
  | n + 1, y, u, w, k, a6, m =>
    (((a6) < 0) →
      let z18 := Fholds (k) (y) (nI (u)) m
      (Ddrafts (nI (31)) (nI (u)) (nI (0)) z18) ∧
      let z20 := Fdrafts (nI (31)) (nI (u)) (nI (0)) z18
      (Dsends 3 2 z20) ∧
      let z22 := Fsends 3 2 z20
      True) ∧
    (¬ ((a6) < 0) →
      (¬ (a6) < 0) ∧
      (Dfield 3 ((a6).toNatClampNeg) 0 m) ∧
      (((Ffield 3 ((a6).toNatClampNeg) 0 m) = (nI (u))) →
        (¬ (a6) < 0) ∧
        (Ddrop 3 ((a6).toNatClampNeg) m) ∧
        let z27 := Fdrop 3 ((a6).toNatClampNeg) m
        Dends_55_3 n y u w k ((a6) + (-1)) z27) ∧
      (¬ ((Ffield 3 ((a6).toNatClampNeg) 0 m) = (nI (u))) →
        Dends_55_3 n y u w k ((a6) + (-1)) m))
set_option maxRecDepth 100000 in
set_option maxHeartbeats 4000000 in
theorem w_ends_55_3 {tt : Prop} : ∀ (n : Nat) (y : Int32) (u : Nat) (w : Int32) (k : Int32) (a6 : Int32) (m : mD) (hD : Dends_55_3 n y u w k a6 m), mV mX11_ends 4 tt (mQv (Fends_55_3 n y u w k a6 m)) 55 [some (.ref (0)), some (.int (y)), some (.int (nI (u))), none, some (.int (k)), some (.int (nI (3))), some (.int (a6))] [] m := by
  intro n
  induction n with
  | zero => intros; rename_i hD; exact hD.elim
  | succ n ih =>
    intro y u w k a6 m hD
    refine ab_iload (pc := 55) dX11_ends_55 rfl ?_
    refine ab_if_lt (pc := 57) (tgt := 87) dX11_ends_57 (by decide) (fun c_57 => ?_) (fun c_57 => ?_)
    · replace hD := hD.1 c_57
      refine ab_iinc (pc := 87) dX11_ends_87 rfl (ab_inc _) (Nat.le_of_ble_eq_true rfl) rfl ?_
      refine ab_goto (pc := 90) (tgt := 38) dX11_ends_90 (by decide) ?_
      refine ab_iload (pc := 38) dX11_ends_38 rfl ?_
      refine ab_iconst (pc := 40) (v := nI 3) dX11_ends_40 (by decide) ?_
      refine ab_icmp_gtN (pc := 41) (tgt := 93) dX11_ends_41 (by decide) (by decide) (by decide) (fun c_41 => ?_) (fun c_41 => ?_)
      · refine ab_aload_n (pc := 93) dX11_ends_93 rfl rfl ?_
        refine ab_iload (pc := 94) dX11_ends_94 rfl ?_
        refine ab_iload_n (pc := 96) dX11_ends_96 rfl rfl ?_
        refine ab_iload_n (pc := 97) dX11_ends_97 rfl rfl ?_
        refine mo_invv (N := mX11_holds) (pc := 98) (d' := 0) (av := [_, _, _]) dX11_ends_98 ml_X11_245 fv_X11_holds (Nat.le_of_ble_eq_true rfl) (by decide) (c_holds _ _ _ _ trivial) ?_
        refine ab_aload_n (pc := 101) dX11_ends_101 rfl rfl ?_
        refine ab_bipush (pc := 102) (v := nI 31) dX11_ends_102 (by decide) ?_
        refine ab_iload_n (pc := 104) dX11_ends_104 rfl rfl ?_
        refine ab_iconst (pc := 105) (v := nI 0) dX11_ends_105 (by decide) ?_
        obtain ⟨o19, hD⟩ := hD
        refine mo_invv (N := mX11_drafts) (pc := 106) (d' := 0) (av := [_, _, _]) dX11_ends_106 ml_X11_152 fv_X11_drafts (Nat.le_of_ble_eq_true rfl) (by decide) (c_drafts _ _ _ _ o19) ?_
        refine ab_aload_n (pc := 109) dX11_ends_109 rfl rfl ?_
        refine ab_iconst (pc := 110) (v := nI 3) dX11_ends_110 (by decide) ?_
        refine ab_iconst (pc := 111) (v := nI 2) dX11_ends_111 (by decide) ?_
        obtain ⟨o21, hD⟩ := hD
        refine mo_invv (N := mX11_sends) (pc := 112) (d' := 3) (av := [_, _]) dX11_ends_112 ml_X11_57 fv_X11_sends (Nat.le_of_ble_eq_true rfl) (by decide) (c_sends _ _ _ o21) ?_
        refine mo_vr (pc := 115) dX11_ends_115 rfl ?_
        first | (rw [Fends_55_3]; (try dsimp only); rw [if_pos c_57]; done) | (rw [Fends_55_3]; (try dsimp only); rw [if_pos c_57]; rfl)
      · exact absurd (by decide) c_41
    · replace hD := hD.2 c_57
      refine ab_aload_n (pc := 60) dX11_ends_60 rfl rfl ?_
      refine ab_iload (pc := 61) dX11_ends_61 rfl ?_
      refine ab_iload (pc := 63) dX11_ends_63 rfl ?_
      refine ab_iconst (pc := 65) (v := nI 0) dX11_ends_65 (by decide) ?_
      obtain ⟨o23, hD⟩ := hD
      refine ab_stk3 rfl (congrArg Value.int (ab_nat o23)) rfl ?_
      obtain ⟨o24, hD⟩ := hD
      refine mo_invr (N := mX11_field) (pc := 66) (d' := 0) (av := [_, _, _]) dX11_ends_66 ml_X11_156 fv_X11_field (Nat.le_of_ble_eq_true rfl) (by decide) (c_field _ _ _ _ o24) ?_
      refine ab_iload_n (pc := 69) dX11_ends_69 rfl rfl ?_
      refine ab_icmp_ne (pc := 70) (tgt := 81) dX11_ends_70 (by decide) (fun c_70 => ?_) (fun c_70 => ?_)
      · replace hD := hD.2 c_70
        refine ab_iinc (pc := 81) (v := _ + (-1)) dX11_ends_81 rfl rfl (Nat.le_of_ble_eq_true rfl) rfl ?_
        refine ab_goto (pc := 84) (tgt := 55) dX11_ends_84 (by decide) ?_
        refine ab_wk (ls2 := [some _, some _, some _, none, some _, some _, some _]) (And.intro rfl (And.intro rfl (And.intro rfl (And.intro rfl (And.intro rfl (And.intro rfl trivial)))))) ?_
        refine mo_eqv ?_ (ih _ _ _ _ _ _ hD)
        first | (rw [Fends_55_3]; (try dsimp only); rw [if_neg c_57, if_neg c_70]; done) | (rw [Fends_55_3]; (try dsimp only); rw [if_neg c_57, if_neg c_70]; rfl)
      · replace hD := hD.1 c_70
        refine ab_aload_n (pc := 73) dX11_ends_73 rfl rfl ?_
        refine ab_iload (pc := 74) dX11_ends_74 rfl ?_
        refine ab_iload (pc := 76) dX11_ends_76 rfl ?_
        obtain ⟨o25, hD⟩ := hD
        refine ab_stk2 (congrArg Value.int (ab_nat o25)) rfl ?_
        obtain ⟨o26, hD⟩ := hD
        refine mo_invv (N := mX11_drop) (pc := 78) (d' := 0) (av := [_, _]) dX11_ends_78 ml_X11_64 fv_X11_drop (Nat.le_of_ble_eq_true rfl) (by decide) (c_drop _ _ _ o26) ?_
        refine ab_iinc (pc := 81) (v := _ + (-1)) dX11_ends_81 rfl rfl (Nat.le_of_ble_eq_true rfl) rfl ?_
        refine ab_goto (pc := 84) (tgt := 55) dX11_ends_84 (by decide) ?_
        refine ab_wk (ls2 := [some _, some _, some _, none, some _, some _, some _]) (And.intro rfl (And.intro rfl (And.intro rfl (And.intro rfl (And.intro rfl (And.intro rfl trivial)))))) ?_
        refine mo_eqv ?_ (ih _ _ _ _ _ _ hD)
        first | (rw [Fends_55_3]; (try dsimp only); rw [if_neg c_57, if_pos c_70]; done) | (rw [Fends_55_3]; (try dsimp only); rw [if_neg c_57, if_pos c_70]; rfl)
def Fends_55_2 : Nat → Int32 → Nat → Int32 → Int32 → Int32 → mD → mD
  | 0, _, _, _, _, _, m => m
  | n + 1, y, u, w, k, a6, m =>
    if (a6) < 0 then
      Fends_55_3 14 y u w k ((nI ((m 2 3).toNatClampNeg)) - (nI (1))) m
    else
      if (Ffield 2 ((a6).toNatClampNeg) 0 m) = (nI (u)) then
        let z17 := Fdrop 2 ((a6).toNatClampNeg) m
        Fends_55_2 n y u w k ((a6) + (-1)) z17
      else
        Fends_55_2 n y u w k ((a6) + (-1)) m
def Dends_55_2 : Nat → Int32 → Nat → Int32 → Int32 → Int32 → mD → Prop
  | 0, _, _, _, _, _, _ => False
  | n + 1, y, u, w, k, a6, m =>
    (((a6) < 0) →
      (¬ (m 2 3) < 0) ∧
      Dends_55_3 14 y u w k ((nI ((m 2 3).toNatClampNeg)) - (nI (1))) m) ∧
    (¬ ((a6) < 0) →
      (¬ (a6) < 0) ∧
      (Dfield 2 ((a6).toNatClampNeg) 0 m) ∧
      (((Ffield 2 ((a6).toNatClampNeg) 0 m) = (nI (u))) →
        (¬ (a6) < 0) ∧
        (Ddrop 2 ((a6).toNatClampNeg) m) ∧
        let z17 := Fdrop 2 ((a6).toNatClampNeg) m
        Dends_55_2 n y u w k ((a6) + (-1)) z17) ∧
      (¬ ((Ffield 2 ((a6).toNatClampNeg) 0 m) = (nI (u))) →
        Dends_55_2 n y u w k ((a6) + (-1)) m))
set_option maxRecDepth 100000 in
set_option maxHeartbeats 4000000 in
theorem w_ends_55_2 {tt : Prop} : ∀ (n : Nat) (y : Int32) (u : Nat) (w : Int32) (k : Int32) (a6 : Int32) (m : mD) (hD : Dends_55_2 n y u w k a6 m), mV mX11_ends 4 tt (mQv (Fends_55_2 n y u w k a6 m)) 55 [some (.ref (0)), some (.int (y)), some (.int (nI (u))), none, some (.int (k)), some (.int (nI (2))), some (.int (a6))] [] m := by
  intro n
  induction n with
  | zero => intros; rename_i hD; exact hD.elim
  | succ n ih =>
    intro y u w k a6 m hD
    refine ab_iload (pc := 55) dX11_ends_55 rfl ?_
    refine ab_if_lt (pc := 57) (tgt := 87) dX11_ends_57 (by decide) (fun c_57 => ?_) (fun c_57 => ?_)
    · replace hD := hD.1 c_57
      refine ab_iinc (pc := 87) dX11_ends_87 rfl (ab_inc _) (Nat.le_of_ble_eq_true rfl) rfl ?_
      refine ab_goto (pc := 90) (tgt := 38) dX11_ends_90 (by decide) ?_
      refine ab_iload (pc := 38) dX11_ends_38 rfl ?_
      refine ab_iconst (pc := 40) (v := nI 3) dX11_ends_40 (by decide) ?_
      refine ab_icmp_gtN (pc := 41) (tgt := 93) dX11_ends_41 (by decide) (by decide) (by decide) (fun c_41 => ?_) (fun c_41 => ?_)
      · exact absurd c_41 (by decide)
      · refine ab_aload_n (pc := 44) dX11_ends_44 rfl rfl ?_
        refine mo_gr (pc := 45) dX11_ends_45 fl_X11_38 rfl rfl ?_
        refine ab_iload (pc := 48) dX11_ends_48 rfl ?_
        refine mo_ild (pc := 50) dX11_ends_50 (by decide) rfl (by decide) (by decide) ?_
        obtain ⟨o12, hD⟩ := hD
        refine ab_nat1 (ab_nat o12) ?_
        refine ab_iconst (pc := 51) (v := nI 1) dX11_ends_51 (by decide) ?_
        refine ab_isub (pc := 52) dX11_ends_52 ?_
        refine ab_istore (pc := 53) dX11_ends_53 (Nat.le_of_ble_eq_true rfl) rfl ?_
        refine ab_wk (ls2 := [some _, some _, some _, none, some _, some _, some _]) (And.intro rfl (And.intro rfl (And.intro rfl (And.intro rfl (And.intro rfl (And.intro rfl trivial)))))) ?_
        refine mo_eqv ?_ (w_ends_55_3 14 _ _ _ _ _ _ hD)
        first | (rw [Fends_55_2]; (try dsimp only); rw [if_pos c_57]; done) | (rw [Fends_55_2]; (try dsimp only); rw [if_pos c_57]; rfl)
    · replace hD := hD.2 c_57
      refine ab_aload_n (pc := 60) dX11_ends_60 rfl rfl ?_
      refine ab_iload (pc := 61) dX11_ends_61 rfl ?_
      refine ab_iload (pc := 63) dX11_ends_63 rfl ?_
      refine ab_iconst (pc := 65) (v := nI 0) dX11_ends_65 (by decide) ?_
      obtain ⟨o13, hD⟩ := hD
      refine ab_stk3 rfl (congrArg Value.int (ab_nat o13)) rfl ?_
      obtain ⟨o14, hD⟩ := hD
      refine mo_invr (N := mX11_field) (pc := 66) (d' := 0) (av := [_, _, _]) dX11_ends_66 ml_X11_156 fv_X11_field (Nat.le_of_ble_eq_true rfl) (by decide) (c_field _ _ _ _ o14) ?_
      refine ab_iload_n (pc := 69) dX11_ends_69 rfl rfl ?_
      refine ab_icmp_ne (pc := 70) (tgt := 81) dX11_ends_70 (by decide) (fun c_70 => ?_) (fun c_70 => ?_)
      · replace hD := hD.2 c_70
        refine ab_iinc (pc := 81) (v := _ + (-1)) dX11_ends_81 rfl rfl (Nat.le_of_ble_eq_true rfl) rfl ?_
        refine ab_goto (pc := 84) (tgt := 55) dX11_ends_84 (by decide) ?_
        refine ab_wk (ls2 := [some _, some _, some _, none, some _, some _, some _]) (And.intro rfl (And.intro rfl (And.intro rfl (And.intro rfl (And.intro rfl (And.intro rfl trivial)))))) ?_
        refine mo_eqv ?_ (ih _ _ _ _ _ _ hD)
        first | (rw [Fends_55_2]; (try dsimp only); rw [if_neg c_57, if_neg c_70]; done) | (rw [Fends_55_2]; (try dsimp only); rw [if_neg c_57, if_neg c_70]; rfl)
      · replace hD := hD.1 c_70
        refine ab_aload_n (pc := 73) dX11_ends_73 rfl rfl ?_
        refine ab_iload (pc := 74) dX11_ends_74 rfl ?_
        refine ab_iload (pc := 76) dX11_ends_76 rfl ?_
        obtain ⟨o15, hD⟩ := hD
        refine ab_stk2 (congrArg Value.int (ab_nat o15)) rfl ?_
        obtain ⟨o16, hD⟩ := hD
        refine mo_invv (N := mX11_drop) (pc := 78) (d' := 0) (av := [_, _]) dX11_ends_78 ml_X11_64 fv_X11_drop (Nat.le_of_ble_eq_true rfl) (by decide) (c_drop _ _ _ o16) ?_
        refine ab_iinc (pc := 81) (v := _ + (-1)) dX11_ends_81 rfl rfl (Nat.le_of_ble_eq_true rfl) rfl ?_
        refine ab_goto (pc := 84) (tgt := 55) dX11_ends_84 (by decide) ?_
        refine ab_wk (ls2 := [some _, some _, some _, none, some _, some _, some _]) (And.intro rfl (And.intro rfl (And.intro rfl (And.intro rfl (And.intro rfl (And.intro rfl trivial)))))) ?_
        refine mo_eqv ?_ (ih _ _ _ _ _ _ hD)
        first | (rw [Fends_55_2]; (try dsimp only); rw [if_neg c_57, if_pos c_70]; done) | (rw [Fends_55_2]; (try dsimp only); rw [if_neg c_57, if_pos c_70]; rfl)
def Fends (y : Int32) (u : Nat) (w : Int32) (k : Int32) (m : mD) : mD :=
  let m2 := ab_up m 7 u (nI (2))
  let m4 := ab_up m2 12 u (w)
  let m6 := ab_up m4 8 u (nI (0))
  let m8 := ab_up m6 13 u (nI (0))
  let m10 := ab_up m8 2 u (nI (0))
  Fends_55_2 14 y u w k ((nI ((m10 2 2).toNatClampNeg)) - (nI (1))) m10
def Dends (y : Int32) (u : Nat) (w : Int32) (k : Int32) (m : mD) : Prop :=
  (u < 12) ∧
  let m2 := ab_up m 7 u (nI (2))
  (u < 12) ∧
  let m4 := ab_up m2 12 u (w)
  (u < 12) ∧
  let m6 := ab_up m4 8 u (nI (0))
  (u < 12) ∧
  let m8 := ab_up m6 13 u (nI (0))
  (u < 12) ∧
  let m10 := ab_up m8 2 u (nI (0))
  (¬ (m10 2 2) < 0) ∧
  Dends_55_2 14 y u w k ((nI ((m10 2 2).toNatClampNeg)) - (nI (1))) m10
set_option maxRecDepth 100000 in
set_option maxHeartbeats 4000000 in
theorem c_ends {tt : Prop} (y : Int32) (u : Nat) (w : Int32) (k : Int32) (m : mD) (hD : Dends y u w k m) : ab_Met mX11_ends 4 0 0 tt [.ref (0), .int (y), .int (nI (u)), .int (w), .int (k)] (sM m) (mQv (Fends y u w k m)) := by
  refine ab_Met.of rfl (Nat.le_of_ble_eq_true rfl) ?_
  show mV mX11_ends 4 tt (mQv (Fends y u w k m)) 0 [some (.ref (0)), some (.int (y)), some (.int (nI (u))), some (.int (w)), some (.int (k)), none, none] [] m
  refine ab_aload_n (pc := 0) dX11_ends_0 rfl rfl ?_
  refine mo_gr (pc := 1) dX11_ends_1 fl_X11_19 rfl rfl ?_
  refine ab_iload_n (pc := 4) dX11_ends_4 rfl rfl ?_
  refine ab_iconst (pc := 5) (v := nI 2) dX11_ends_5 (by decide) ?_
  obtain ⟨o1, hD⟩ := hD
  refine mo_ist (pc := 6) dX11_ends_6 (by decide) rfl o1 (by decide) ?_
  refine ab_aload_n (pc := 7) dX11_ends_7 rfl rfl ?_
  refine mo_gr (pc := 8) dX11_ends_8 fl_X11_86 rfl rfl ?_
  refine ab_iload_n (pc := 11) dX11_ends_11 rfl rfl ?_
  refine ab_iload_n (pc := 12) dX11_ends_12 rfl rfl ?_
  obtain ⟨o3, hD⟩ := hD
  refine mo_ist (pc := 13) dX11_ends_13 (by decide) rfl o3 (by decide) ?_
  refine ab_aload_n (pc := 14) dX11_ends_14 rfl rfl ?_
  refine mo_gr (pc := 15) dX11_ends_15 fl_X11_73 rfl rfl ?_
  refine ab_iload_n (pc := 18) dX11_ends_18 rfl rfl ?_
  refine ab_iconst (pc := 19) (v := nI 0) dX11_ends_19 (by decide) ?_
  obtain ⟨o5, hD⟩ := hD
  refine mo_zst (pc := 20) dX11_ends_20 (by decide) rfl o5 (by decide) (Or.inl rfl) ?_
  refine ab_aload_n (pc := 21) dX11_ends_21 rfl rfl ?_
  refine mo_gr (pc := 22) dX11_ends_22 fl_X11_89 rfl rfl ?_
  refine ab_iload_n (pc := 25) dX11_ends_25 rfl rfl ?_
  refine ab_iconst (pc := 26) (v := nI 0) dX11_ends_26 (by decide) ?_
  obtain ⟨o7, hD⟩ := hD
  refine mo_zst (pc := 27) dX11_ends_27 (by decide) rfl o7 (by decide) (Or.inl rfl) ?_
  refine ab_aload_n (pc := 28) dX11_ends_28 rfl rfl ?_
  refine mo_gr (pc := 29) dX11_ends_29 fl_X11_38 rfl rfl ?_
  refine ab_iload_n (pc := 32) dX11_ends_32 rfl rfl ?_
  refine ab_iconst (pc := 33) (v := nI 0) dX11_ends_33 (by decide) ?_
  obtain ⟨o9, hD⟩ := hD
  refine mo_ist (pc := 34) dX11_ends_34 (by decide) rfl o9 (by decide) ?_
  refine ab_iconst (pc := 35) (v := nI 2) dX11_ends_35 (by decide) ?_
  refine ab_istore (pc := 36) dX11_ends_36 (Nat.le_of_ble_eq_true rfl) rfl ?_
  refine ab_iload (pc := 38) dX11_ends_38 rfl ?_
  refine ab_iconst (pc := 40) (v := nI 3) dX11_ends_40 (by decide) ?_
  refine ab_icmp_gtN (pc := 41) (tgt := 93) dX11_ends_41 (by decide) (by decide) (by decide) (fun c_41 => ?_) (fun c_41 => ?_)
  · exact absurd c_41 (by decide)
  · refine ab_aload_n (pc := 44) dX11_ends_44 rfl rfl ?_
    refine mo_gr (pc := 45) dX11_ends_45 fl_X11_38 rfl rfl ?_
    refine ab_iload (pc := 48) dX11_ends_48 rfl ?_
    refine mo_ild (pc := 50) dX11_ends_50 (by decide) rfl (by decide) (by decide) ?_
    obtain ⟨o11, hD⟩ := hD
    refine ab_nat1 (ab_nat o11) ?_
    refine ab_iconst (pc := 51) (v := nI 1) dX11_ends_51 (by decide) ?_
    refine ab_isub (pc := 52) dX11_ends_52 ?_
    refine ab_istore (pc := 53) dX11_ends_53 (Nat.le_of_ble_eq_true rfl) rfl ?_
    refine ab_wk (ls2 := [some _, some _, some _, none, some _, some _, some _]) (And.intro rfl (And.intro rfl (And.intro rfl (And.intro rfl (And.intro rfl (And.intro rfl trivial)))))) ?_
    refine mo_eqv ?_ (w_ends_55_2 14 _ _ _ _ _ _ hD)
    first | rfl | (rw [Fends]; done) | (rw [Fends]; rfl)
def Fdone_56 : Nat → Int32 → Nat → mD → mD
  | 0, _, _, m => m
  | n + 1, a1, a2, m =>
    if 12 ≤ a2 then
      if 0 ≤ (m 11 ((a1).toNatClampNeg)) then
        if (m 13 ((m 11 ((a1).toNatClampNeg)).toNatClampNeg)) = 0 then
          if (m 0 44) = (nI (11)) then
            let z21 := Ftells 3 ((m 0 45).toNatClampNeg) (nI (0)) m
            z21
          else
            m
        else
          let m24 := ab_up m 13 ((m 11 ((a1).toNatClampNeg)).toNatClampNeg) (nI (0))
          let z27 := Ffreed ((a1).toNatClampNeg) m24
          let z30 := Ftells 3 ((m 11 ((a1).toNatClampNeg)).toNatClampNeg) (z27.1) z27.2
          if (z30 0 44) = (nI (11)) then
            let z33 := Ftells 3 ((z30 0 45).toNatClampNeg) (nI (0)) z30
            z33
          else
            z30
      else
        let m36 := ab_up m 7 ((a1).toNatClampNeg) (nI (0))
        if (m36 0 44) = (nI (11)) then
          let z39 := Ftells 3 ((m36 0 45).toNatClampNeg) (nI (0)) m36
          z39
        else
          m36
    else
      if (m 11 a2) = (a1) then
        let m42 := ab_up m 11 a2 (-1)
        if (m42 7 a2) = (nI (2)) then
          let m48 := ab_up m42 7 a2 (nI (0))
          Fdone_56 n (a1) (a2 + 1) m48
        else
          let m46 := ab_up m42 7 a2 (m42 7 a2)
          Fdone_56 n (a1) (a2 + 1) m46
      else
        Fdone_56 n (a1) (a2 + 1) m
def Ddone_56 : Nat → Int32 → Nat → mD → Prop
  | 0, _, _, _ => False
  | n + 1, a1, a2, m =>
    (a2 < 2147483648) ∧
    ((12 ≤ a2) →
      (¬ (a1) < 0) ∧
      (((a1).toNatClampNeg) < 12) ∧
      ((0 ≤ (m 11 ((a1).toNatClampNeg))) →
        (¬ (m 11 ((a1).toNatClampNeg)) < 0) ∧
        (((m 11 ((a1).toNatClampNeg)).toNatClampNeg) < 12) ∧
        (((m 13 ((m 11 ((a1).toNatClampNeg)).toNatClampNeg)) = 0) →
          (((m 0 44) = (nI (11))) →
            (¬ (m 0 45) < 0) ∧
            (Dtells 3 ((m 0 45).toNatClampNeg) (nI (0)) m) ∧
            let z21 := Ftells 3 ((m 0 45).toNatClampNeg) (nI (0)) m
            True) ∧
          (¬ ((m 0 44) = (nI (11))) →
            True)) ∧
        (¬ ((m 13 ((m 11 ((a1).toNatClampNeg)).toNatClampNeg)) = 0) →
          (¬ (m 11 ((a1).toNatClampNeg)) < 0) ∧
          (((m 11 ((a1).toNatClampNeg)).toNatClampNeg) < 12) ∧
          let m24 := ab_up m 13 ((m 11 ((a1).toNatClampNeg)).toNatClampNeg) (nI (0))
          (¬ (a1) < 0) ∧
          (Dfreed ((a1).toNatClampNeg) m24) ∧
          let z27 := Ffreed ((a1).toNatClampNeg) m24
          (¬ (m 11 ((a1).toNatClampNeg)) < 0) ∧
          (Dtells 3 ((m 11 ((a1).toNatClampNeg)).toNatClampNeg) (z27.1) z27.2) ∧
          let z30 := Ftells 3 ((m 11 ((a1).toNatClampNeg)).toNatClampNeg) (z27.1) z27.2
          (((z30 0 44) = (nI (11))) →
            (¬ (z30 0 45) < 0) ∧
            (Dtells 3 ((z30 0 45).toNatClampNeg) (nI (0)) z30) ∧
            let z33 := Ftells 3 ((z30 0 45).toNatClampNeg) (nI (0)) z30
            True) ∧
          (¬ ((z30 0 44) = (nI (11))) →
            True))) ∧
      (¬ (0 ≤ (m 11 ((a1).toNatClampNeg))) →
        (¬ (a1) < 0) ∧
        (((a1).toNatClampNeg) < 12) ∧
        let m36 := ab_up m 7 ((a1).toNatClampNeg) (nI (0))
        (((m36 0 44) = (nI (11))) →
          (¬ (m36 0 45) < 0) ∧
          (Dtells 3 ((m36 0 45).toNatClampNeg) (nI (0)) m36) ∧
          let z39 := Ftells 3 ((m36 0 45).toNatClampNeg) (nI (0)) m36
          True) ∧
        (¬ ((m36 0 44) = (nI (11))) →
          True))) ∧
    (¬ (12 ≤ a2) →
      (a2 < 12) ∧
      (((m 11 a2) = (a1)) →
        (a2 < 12) ∧
        let m42 := ab_up m 11 a2 (-1)
        (a2 < 12) ∧
        (((m42 7 a2) = (nI (2))) →
          (a2 < 12) ∧
          let m48 := ab_up m42 7 a2 (nI (0))
          Ddone_56 n (a1) (a2 + 1) m48) ∧
        (¬ ((m42 7 a2) = (nI (2))) →
          (a2 < 12) ∧
          (a2 < 12) ∧
          let m46 := ab_up m42 7 a2 (m42 7 a2)
          Ddone_56 n (a1) (a2 + 1) m46)) ∧
      (¬ ((m 11 a2) = (a1)) →
        Ddone_56 n (a1) (a2 + 1) m))
set_option maxRecDepth 100000 in
set_option maxHeartbeats 4000000 in
theorem w_done_56 {tt : Prop} : ∀ (n : Nat) (a1 : Int32) (a2 : Nat) (m : mD) (hD : Ddone_56 n a1 a2 m), mV mX11_done 5 tt (mQv (Fdone_56 n a1 a2 m)) 56 [some (.ref (0)), some (.int (a1)), some (.int (nI (a2)))] [] m := by
  intro n
  induction n with
  | zero => intros; rename_i hD; exact hD.elim
  | succ n ih =>
    intro a1 a2 m hD
    refine ab_iload_n (pc := 56) dX11_done_56 rfl rfl ?_
    refine ab_bipush (pc := 57) (v := nI 12) dX11_done_57 (by decide) ?_
    obtain ⟨o14, hD⟩ := hD
    refine ab_icmp_geN (pc := 59) (tgt := 111) dX11_done_59 (by decide) o14 (by decide) (fun c_59 => ?_) (fun c_59 => ?_)
    · replace hD := hD.1 c_59
      refine ab_aload_n (pc := 111) dX11_done_111 rfl rfl ?_
      refine mo_gr (pc := 112) dX11_done_112 fl_X11_83 rfl rfl ?_
      refine ab_iload_n (pc := 115) dX11_done_115 rfl rfl ?_
      obtain ⟨o15, hD⟩ := hD
      refine ab_nat1 (ab_nat o15) ?_
      obtain ⟨o16, hD⟩ := hD
      refine mo_ild (pc := 116) dX11_done_116 (by decide) rfl o16 (by decide) ?_
      refine ab_istore_n (pc := 117) dX11_done_117 rfl (Nat.le_of_ble_eq_true rfl) rfl ?_
      refine ab_iload_n (pc := 118) dX11_done_118 rfl rfl ?_
      refine ab_if_ge (pc := 119) (tgt := 132) dX11_done_119 (by decide) (fun c_119 => ?_) (fun c_119 => ?_)
      · replace hD := hD.1 c_119
        refine ab_aload_n (pc := 132) dX11_done_132 rfl rfl ?_
        refine mo_gr (pc := 133) dX11_done_133 fl_X11_89 rfl rfl ?_
        refine ab_iload_n (pc := 136) dX11_done_136 rfl rfl ?_
        obtain ⟨o17, hD⟩ := hD
        refine ab_nat1 (ab_nat o17) ?_
        obtain ⟨o18, hD⟩ := hD
        refine mo_zld (pc := 137) dX11_done_137 (by decide) rfl o18 (by decide) ?_
        refine ab_if_eq (pc := 138) (tgt := 159) dX11_done_138 (by decide) (fun c_138 => ?_) (fun c_138 => ?_)
        · replace hD := hD.1 c_138
          refine ab_aload_n (pc := 159) dX11_done_159 rfl rfl ?_
          refine mo_gi (pc := 160) dX11_done_160 fl_X11_248 rfl ?_
          refine ab_bipush (pc := 163) (v := nI 11) dX11_done_163 (by decide) ?_
          refine ab_icmp_ne (pc := 165) (tgt := 178) dX11_done_165 (by decide) (fun c_165 => ?_) (fun c_165 => ?_)
          · refine mo_vr (pc := 178) dX11_done_178 rfl ?_
            first | (rw [Fdone_56]; (try dsimp only); rw [if_pos c_59, if_pos c_119, if_pos c_138, if_neg c_165]; done) | (rw [Fdone_56]; (try dsimp only); rw [if_pos c_59, if_pos c_119, if_pos c_138, if_neg c_165]; rfl)
          · replace hD := hD.1 c_165
            refine ab_aload_n (pc := 168) dX11_done_168 rfl rfl ?_
            refine ab_iconst (pc := 169) (v := nI 3) dX11_done_169 (by decide) ?_
            refine ab_aload_n (pc := 170) dX11_done_170 rfl rfl ?_
            refine mo_gi (pc := 171) dX11_done_171 fl_X11_251 rfl ?_
            refine ab_iconst (pc := 174) (v := nI 0) dX11_done_174 (by decide) ?_
            obtain ⟨o19, hD⟩ := hD
            refine ab_stk3 rfl (congrArg Value.int (ab_nat o19)) rfl ?_
            obtain ⟨o20, hD⟩ := hD
            refine mo_invv (N := mX11_tells) (pc := 175) (d' := 4) (av := [_, _, _]) dX11_done_175 ml_X11_196 fv_X11_tells (Nat.le_of_ble_eq_true rfl) (by decide) (c_tells _ _ _ _ o20) ?_
            refine mo_vr (pc := 178) dX11_done_178 rfl ?_
            first | (rw [Fdone_56]; (try dsimp only); rw [if_pos c_59, if_pos c_119, if_pos c_138, if_pos c_165]; done) | (rw [Fdone_56]; (try dsimp only); rw [if_pos c_59, if_pos c_119, if_pos c_138, if_pos c_165]; rfl)
        · replace hD := hD.2 c_138
          refine ab_aload_n (pc := 141) dX11_done_141 rfl rfl ?_
          refine mo_gr (pc := 142) dX11_done_142 fl_X11_89 rfl rfl ?_
          refine ab_iload_n (pc := 145) dX11_done_145 rfl rfl ?_
          refine ab_iconst (pc := 146) (v := nI 0) dX11_done_146 (by decide) ?_
          obtain ⟨o22, hD⟩ := hD
          refine ab_nat3 (ab_nat o22) ?_
          obtain ⟨o23, hD⟩ := hD
          refine mo_zst (pc := 147) dX11_done_147 (by decide) rfl o23 (by decide) (Or.inl rfl) ?_
          refine ab_aload_n (pc := 148) dX11_done_148 rfl rfl ?_
          refine ab_iconst (pc := 149) (v := nI 3) dX11_done_149 (by decide) ?_
          refine ab_iload_n (pc := 150) dX11_done_150 rfl rfl ?_
          refine ab_aload_n (pc := 151) dX11_done_151 rfl rfl ?_
          refine ab_iload_n (pc := 152) dX11_done_152 rfl rfl ?_
          obtain ⟨o25, hD⟩ := hD
          refine ab_stk1 (congrArg Value.int (ab_nat o25)) ?_
          obtain ⟨o26, hD⟩ := hD
          refine mo_invi (N := mX11_freed) (pc := 153) (d' := 0) (av := [_]) dX11_done_153 ml_X11_257 fv_X11_freed (Nat.le_of_ble_eq_true rfl) (by decide) (c_freed _ _ o26) ?_
          obtain ⟨o28, hD⟩ := hD
          refine ab_stk3 rfl (congrArg Value.int (ab_nat o28)) rfl ?_
          obtain ⟨o29, hD⟩ := hD
          refine mo_invv (N := mX11_tells) (pc := 156) (d' := 4) (av := [_, _, _]) dX11_done_156 ml_X11_196 fv_X11_tells (Nat.le_of_ble_eq_true rfl) (by decide) (c_tells _ _ _ _ o29) ?_
          refine ab_aload_n (pc := 159) dX11_done_159 rfl rfl ?_
          refine mo_gi (pc := 160) dX11_done_160 fl_X11_248 rfl ?_
          refine ab_bipush (pc := 163) (v := nI 11) dX11_done_163 (by decide) ?_
          refine ab_icmp_ne (pc := 165) (tgt := 178) dX11_done_165 (by decide) (fun c_165 => ?_) (fun c_165 => ?_)
          · refine mo_vr (pc := 178) dX11_done_178 rfl ?_
            first | (rw [Fdone_56]; (try dsimp only); rw [if_pos c_59, if_pos c_119, if_neg c_138, if_neg c_165]; done) | (rw [Fdone_56]; (try dsimp only); rw [if_pos c_59, if_pos c_119, if_neg c_138, if_neg c_165]; rfl)
          · replace hD := hD.1 c_165
            refine ab_aload_n (pc := 168) dX11_done_168 rfl rfl ?_
            refine ab_iconst (pc := 169) (v := nI 3) dX11_done_169 (by decide) ?_
            refine ab_aload_n (pc := 170) dX11_done_170 rfl rfl ?_
            refine mo_gi (pc := 171) dX11_done_171 fl_X11_251 rfl ?_
            refine ab_iconst (pc := 174) (v := nI 0) dX11_done_174 (by decide) ?_
            obtain ⟨o31, hD⟩ := hD
            refine ab_stk3 rfl (congrArg Value.int (ab_nat o31)) rfl ?_
            obtain ⟨o32, hD⟩ := hD
            refine mo_invv (N := mX11_tells) (pc := 175) (d' := 4) (av := [_, _, _]) dX11_done_175 ml_X11_196 fv_X11_tells (Nat.le_of_ble_eq_true rfl) (by decide) (c_tells _ _ _ _ o32) ?_
            refine mo_vr (pc := 178) dX11_done_178 rfl ?_
            first | (rw [Fdone_56]; (try dsimp only); rw [if_pos c_59, if_pos c_119, if_neg c_138, if_pos c_165]; done) | (rw [Fdone_56]; (try dsimp only); rw [if_pos c_59, if_pos c_119, if_neg c_138, if_pos c_165]; rfl)
      · replace hD := hD.2 c_119
        refine ab_aload_n (pc := 122) dX11_done_122 rfl rfl ?_
        refine mo_gr (pc := 123) dX11_done_123 fl_X11_19 rfl rfl ?_
        refine ab_iload_n (pc := 126) dX11_done_126 rfl rfl ?_
        refine ab_iconst (pc := 127) (v := nI 0) dX11_done_127 (by decide) ?_
        obtain ⟨o34, hD⟩ := hD
        refine ab_nat3 (ab_nat o34) ?_
        obtain ⟨o35, hD⟩ := hD
        refine mo_ist (pc := 128) dX11_done_128 (by decide) rfl o35 (by decide) ?_
        refine ab_goto (pc := 129) (tgt := 159) dX11_done_129 (by decide) ?_
        refine ab_aload_n (pc := 159) dX11_done_159 rfl rfl ?_
        refine mo_gi (pc := 160) dX11_done_160 fl_X11_248 rfl ?_
        refine ab_bipush (pc := 163) (v := nI 11) dX11_done_163 (by decide) ?_
        refine ab_icmp_ne (pc := 165) (tgt := 178) dX11_done_165 (by decide) (fun c_165 => ?_) (fun c_165 => ?_)
        · refine mo_vr (pc := 178) dX11_done_178 rfl ?_
          first | (rw [Fdone_56]; (try dsimp only); rw [if_pos c_59, if_neg c_119, if_neg c_165]; done) | (rw [Fdone_56]; (try dsimp only); rw [if_pos c_59, if_neg c_119, if_neg c_165]; rfl)
        · replace hD := hD.1 c_165
          refine ab_aload_n (pc := 168) dX11_done_168 rfl rfl ?_
          refine ab_iconst (pc := 169) (v := nI 3) dX11_done_169 (by decide) ?_
          refine ab_aload_n (pc := 170) dX11_done_170 rfl rfl ?_
          refine mo_gi (pc := 171) dX11_done_171 fl_X11_251 rfl ?_
          refine ab_iconst (pc := 174) (v := nI 0) dX11_done_174 (by decide) ?_
          obtain ⟨o37, hD⟩ := hD
          refine ab_stk3 rfl (congrArg Value.int (ab_nat o37)) rfl ?_
          obtain ⟨o38, hD⟩ := hD
          refine mo_invv (N := mX11_tells) (pc := 175) (d' := 4) (av := [_, _, _]) dX11_done_175 ml_X11_196 fv_X11_tells (Nat.le_of_ble_eq_true rfl) (by decide) (c_tells _ _ _ _ o38) ?_
          refine mo_vr (pc := 178) dX11_done_178 rfl ?_
          first | (rw [Fdone_56]; (try dsimp only); rw [if_pos c_59, if_neg c_119, if_pos c_165]; done) | (rw [Fdone_56]; (try dsimp only); rw [if_pos c_59, if_neg c_119, if_pos c_165]; rfl)
    · replace hD := hD.2 c_59
      refine ab_aload_n (pc := 62) dX11_done_62 rfl rfl ?_
      refine mo_gr (pc := 63) dX11_done_63 fl_X11_83 rfl rfl ?_
      refine ab_iload_n (pc := 66) dX11_done_66 rfl rfl ?_
      obtain ⟨o40, hD⟩ := hD
      refine mo_ild (pc := 67) dX11_done_67 (by decide) rfl o40 (by decide) ?_
      refine ab_iload_n (pc := 68) dX11_done_68 rfl rfl ?_
      refine ab_icmp_ne (pc := 69) (tgt := 105) dX11_done_69 (by decide) (fun c_69 => ?_) (fun c_69 => ?_)
      · replace hD := hD.2 c_69
        refine ab_iinc (pc := 105) dX11_done_105 rfl (ab_inc _) (Nat.le_of_ble_eq_true rfl) rfl ?_
        refine ab_goto (pc := 108) (tgt := 56) dX11_done_108 (by decide) ?_
        refine mo_eqv ?_ (ih _ _ _ hD)
        first | (rw [Fdone_56]; (try dsimp only); rw [if_neg c_59, if_neg c_69]; done) | (rw [Fdone_56]; (try dsimp only); rw [if_neg c_59, if_neg c_69]; rfl)
      · replace hD := hD.1 c_69
        refine ab_aload_n (pc := 72) dX11_done_72 rfl rfl ?_
        refine mo_gr (pc := 73) dX11_done_73 fl_X11_83 rfl rfl ?_
        refine ab_iload_n (pc := 76) dX11_done_76 rfl rfl ?_
        refine ab_iconst (pc := 77) (v := -1) dX11_done_77 (by decide) ?_
        obtain ⟨o41, hD⟩ := hD
        refine mo_ist (pc := 78) dX11_done_78 (by decide) rfl o41 (by decide) ?_
        refine ab_aload_n (pc := 79) dX11_done_79 rfl rfl ?_
        refine mo_gr (pc := 80) dX11_done_80 fl_X11_19 rfl rfl ?_
        refine ab_iload_n (pc := 83) dX11_done_83 rfl rfl ?_
        refine ab_aload_n (pc := 84) dX11_done_84 rfl rfl ?_
        refine mo_gr (pc := 85) dX11_done_85 fl_X11_19 rfl rfl ?_
        refine ab_iload_n (pc := 88) dX11_done_88 rfl rfl ?_
        obtain ⟨o43, hD⟩ := hD
        refine mo_ild (pc := 89) dX11_done_89 (by decide) rfl o43 (by decide) ?_
        refine ab_iconst (pc := 90) (v := nI 2) dX11_done_90 (by decide) ?_
        refine ab_icmp_ne (pc := 91) (tgt := 98) dX11_done_91 (by decide) (fun c_91 => ?_) (fun c_91 => ?_)
        · replace hD := hD.2 c_91
          refine ab_aload_n (pc := 98) dX11_done_98 rfl rfl ?_
          refine mo_gr (pc := 99) dX11_done_99 fl_X11_19 rfl rfl ?_
          refine ab_iload_n (pc := 102) dX11_done_102 rfl rfl ?_
          obtain ⟨o44, hD⟩ := hD
          refine mo_ild (pc := 103) dX11_done_103 (by decide) rfl o44 (by decide) ?_
          obtain ⟨o45, hD⟩ := hD
          refine mo_ist (pc := 104) dX11_done_104 (by decide) rfl o45 (by decide) ?_
          refine ab_iinc (pc := 105) dX11_done_105 rfl (ab_inc _) (Nat.le_of_ble_eq_true rfl) rfl ?_
          refine ab_goto (pc := 108) (tgt := 56) dX11_done_108 (by decide) ?_
          refine mo_eqv ?_ (ih _ _ _ hD)
          first | (rw [Fdone_56]; (try dsimp only); rw [if_neg c_59, if_pos c_69, if_neg c_91]; done) | (rw [Fdone_56]; (try dsimp only); rw [if_neg c_59, if_pos c_69, if_neg c_91]; rfl)
        · replace hD := hD.1 c_91
          refine ab_iconst (pc := 94) (v := nI 0) dX11_done_94 (by decide) ?_
          refine ab_goto (pc := 95) (tgt := 104) dX11_done_95 (by decide) ?_
          obtain ⟨o47, hD⟩ := hD
          refine mo_ist (pc := 104) dX11_done_104 (by decide) rfl o47 (by decide) ?_
          refine ab_iinc (pc := 105) dX11_done_105 rfl (ab_inc _) (Nat.le_of_ble_eq_true rfl) rfl ?_
          refine ab_goto (pc := 108) (tgt := 56) dX11_done_108 (by decide) ?_
          refine mo_eqv ?_ (ih _ _ _ hD)
          first | (rw [Fdone_56]; (try dsimp only); rw [if_neg c_59, if_pos c_69, if_pos c_91]; done) | (rw [Fdone_56]; (try dsimp only); rw [if_neg c_59, if_pos c_69, if_pos c_91]; rfl)
def Fdone  (m : mD) : mD :=
  let m1 := ab_up m 0 43 (nI (0))
  if (m1 0 44) = (nI (8)) then
    let m4 := ab_up m1 7 ((m1 0 46).toNatClampNeg) (nI (1))
    let m7 := ab_up m4 11 ((m1 0 46).toNatClampNeg) (m4 0 45)
    let m10 := ab_up m7 12 ((m1 0 46).toNatClampNeg) (nI (0))
    let z13 := Ftells 3 ((m10 0 45).toNatClampNeg) (m1 0 46) m10
    z13
  else
    Fdone_56 9 (m1 0 46) 4 m1
def Ddone  (m : mD) : Prop :=
  let m1 := ab_up m 0 43 (nI (0))
  (((m1 0 44) = (nI (8))) →
    (¬ (m1 0 46) < 0) ∧
    (((m1 0 46).toNatClampNeg) < 12) ∧
    let m4 := ab_up m1 7 ((m1 0 46).toNatClampNeg) (nI (1))
    (¬ (m1 0 46) < 0) ∧
    (((m1 0 46).toNatClampNeg) < 12) ∧
    let m7 := ab_up m4 11 ((m1 0 46).toNatClampNeg) (m4 0 45)
    (¬ (m1 0 46) < 0) ∧
    (((m1 0 46).toNatClampNeg) < 12) ∧
    let m10 := ab_up m7 12 ((m1 0 46).toNatClampNeg) (nI (0))
    (¬ (m10 0 45) < 0) ∧
    (Dtells 3 ((m10 0 45).toNatClampNeg) (m1 0 46) m10) ∧
    let z13 := Ftells 3 ((m10 0 45).toNatClampNeg) (m1 0 46) m10
    True) ∧
  (¬ ((m1 0 44) = (nI (8))) →
    Ddone_56 9 (m1 0 46) 4 m1)
set_option maxRecDepth 100000 in
set_option maxHeartbeats 4000000 in
theorem c_done {tt : Prop}  (m : mD) (hD : Ddone  m) : ab_Met mX11_done 5 0 0 tt [.ref (0)] (sM m) (mQv (Fdone  m)) := by
  refine ab_Met.of rfl (Nat.le_of_ble_eq_true rfl) ?_
  show mV mX11_done 5 tt (mQv (Fdone  m)) 0 [some (.ref (0)), none, none] [] m
  refine ab_aload_n (pc := 0) dX11_done_0 rfl rfl ?_
  refine ab_iconst (pc := 1) (v := nI 0) dX11_done_1 (by decide) ?_
  refine mo_pi (pc := 2) dX11_done_2 fl_X11_225 rfl rfl (ab_ok_b (Or.inl rfl)) ?_
  refine ab_aload_n (pc := 5) dX11_done_5 rfl rfl ?_
  refine mo_gi (pc := 6) dX11_done_6 fl_X11_254 rfl ?_
  refine ab_istore_n (pc := 9) dX11_done_9 rfl (Nat.le_of_ble_eq_true rfl) rfl ?_
  refine ab_aload_n (pc := 10) dX11_done_10 rfl rfl ?_
  refine mo_gi (pc := 11) dX11_done_11 fl_X11_248 rfl ?_
  refine ab_bipush (pc := 14) (v := nI 8) dX11_done_14 (by decide) ?_
  refine ab_icmp_ne (pc := 16) (tgt := 54) dX11_done_16 (by decide) (fun c_16 => ?_) (fun c_16 => ?_)
  · replace hD := hD.2 c_16
    refine ab_iconst (pc := 54) (v := nI 4) dX11_done_54 (by decide) ?_
    refine ab_istore_n (pc := 55) dX11_done_55 rfl (Nat.le_of_ble_eq_true rfl) rfl ?_
    refine mo_eqv ?_ (w_done_56 9 _ _ _ hD)
    first | (rw [Fdone]; (try dsimp only); rw [if_neg c_16]; done) | (rw [Fdone]; (try dsimp only); rw [if_neg c_16]; rfl)
  · replace hD := hD.1 c_16
    refine ab_aload_n (pc := 19) dX11_done_19 rfl rfl ?_
    refine mo_gr (pc := 20) dX11_done_20 fl_X11_19 rfl rfl ?_
    refine ab_iload_n (pc := 23) dX11_done_23 rfl rfl ?_
    refine ab_iconst (pc := 24) (v := nI 1) dX11_done_24 (by decide) ?_
    obtain ⟨o2, hD⟩ := hD
    refine ab_nat3 (ab_nat o2) ?_
    obtain ⟨o3, hD⟩ := hD
    refine mo_ist (pc := 25) dX11_done_25 (by decide) rfl o3 (by decide) ?_
    refine ab_aload_n (pc := 26) dX11_done_26 rfl rfl ?_
    refine mo_gr (pc := 27) dX11_done_27 fl_X11_83 rfl rfl ?_
    refine ab_iload_n (pc := 30) dX11_done_30 rfl rfl ?_
    refine ab_aload_n (pc := 31) dX11_done_31 rfl rfl ?_
    refine mo_gi (pc := 32) dX11_done_32 fl_X11_251 rfl ?_
    obtain ⟨o5, hD⟩ := hD
    refine ab_nat3 (ab_nat o5) ?_
    obtain ⟨o6, hD⟩ := hD
    refine mo_ist (pc := 35) dX11_done_35 (by decide) rfl o6 (by decide) ?_
    refine ab_aload_n (pc := 36) dX11_done_36 rfl rfl ?_
    refine mo_gr (pc := 37) dX11_done_37 fl_X11_86 rfl rfl ?_
    refine ab_iload_n (pc := 40) dX11_done_40 rfl rfl ?_
    refine ab_iconst (pc := 41) (v := nI 0) dX11_done_41 (by decide) ?_
    obtain ⟨o8, hD⟩ := hD
    refine ab_nat3 (ab_nat o8) ?_
    obtain ⟨o9, hD⟩ := hD
    refine mo_ist (pc := 42) dX11_done_42 (by decide) rfl o9 (by decide) ?_
    refine ab_aload_n (pc := 43) dX11_done_43 rfl rfl ?_
    refine ab_iconst (pc := 44) (v := nI 3) dX11_done_44 (by decide) ?_
    refine ab_aload_n (pc := 45) dX11_done_45 rfl rfl ?_
    refine mo_gi (pc := 46) dX11_done_46 fl_X11_251 rfl ?_
    refine ab_iload_n (pc := 49) dX11_done_49 rfl rfl ?_
    obtain ⟨o11, hD⟩ := hD
    refine ab_stk3 rfl (congrArg Value.int (ab_nat o11)) rfl ?_
    obtain ⟨o12, hD⟩ := hD
    refine mo_invv (N := mX11_tells) (pc := 50) (d' := 4) (av := [_, _, _]) dX11_done_50 ml_X11_196 fv_X11_tells (Nat.le_of_ble_eq_true rfl) (by decide) (c_tells _ _ _ _ o12) ?_
    refine mo_vr (pc := 53) dX11_done_53 rfl ?_
    first | (rw [Fdone]; (try dsimp only); rw [if_pos c_16]; done) | (rw [Fdone]; (try dsimp only); rw [if_pos c_16]; rfl)
def FwaitsFor_8 : Nat → Nat → Int32 → Int32 → Int32 → mD → mD
  | 0, _, _, _, _, m => m
  | n + 1, u, a2, a3, a4, m =>
    if (a4) < (nI (4)) then
      if (a2) < 0 then
        if (a3) = 0 then
          let z2 := Ftells 3 u (-10) m
          z2
        else
          let m4 := ab_up m 13 u (nI (1))
          m4
      else
        let z7 := Ffreed ((a2).toNatClampNeg) m
        let z9 := Ftells 3 u (z7.1) z7.2
        z9
    else
      if (m 11 ((a4).toNatClampNeg)) = (nI (u)) then
        if (m 7 ((a4).toNatClampNeg)) = 0 then
          if (a3) = 0 then
            FwaitsFor_8 n u (a2) (nI (0)) ((a4) + (-1)) m
          else
            FwaitsFor_8 n u (a2) (nI (1)) ((a4) + (-1)) m
        else
          if (a3) = 0 then
            if (m 7 ((a4).toNatClampNeg)) = (nI (2)) then
              FwaitsFor_8 n u (a4) (nI (1)) ((a4) + (-1)) m
            else
              FwaitsFor_8 n u (a2) (nI (1)) ((a4) + (-1)) m
          else
            if (m 7 ((a4).toNatClampNeg)) = (nI (2)) then
              FwaitsFor_8 n u (a4) (nI (1)) ((a4) + (-1)) m
            else
              FwaitsFor_8 n u (a2) (nI (1)) ((a4) + (-1)) m
      else
        if (a3) = 0 then
          FwaitsFor_8 n u (a2) (nI (0)) ((a4) + (-1)) m
        else
          FwaitsFor_8 n u (a2) (nI (1)) ((a4) + (-1)) m
def DwaitsFor_8 : Nat → Nat → Int32 → Int32 → Int32 → mD → Prop
  | 0, _, _, _, _, _ => False
  | n + 1, u, a2, a3, a4, m =>
    (((a4) < (nI (4))) →
      (((a2) < 0) →
        (((a3) = 0) →
          (Dtells 3 u (-10) m) ∧
          let z2 := Ftells 3 u (-10) m
          True) ∧
        (¬ ((a3) = 0) →
          (u < 12) ∧
          let m4 := ab_up m 13 u (nI (1))
          True)) ∧
      (¬ ((a2) < 0) →
        (¬ (a2) < 0) ∧
        (Dfreed ((a2).toNatClampNeg) m) ∧
        let z7 := Ffreed ((a2).toNatClampNeg) m
        (Dtells 3 u (z7.1) z7.2) ∧
        let z9 := Ftells 3 u (z7.1) z7.2
        True)) ∧
    (¬ ((a4) < (nI (4))) →
      (¬ (a4) < 0) ∧
      (((a4).toNatClampNeg) < 12) ∧
      (((m 11 ((a4).toNatClampNeg)) = (nI (u))) →
        (¬ (a4) < 0) ∧
        (((a4).toNatClampNeg) < 12) ∧
        (((m 7 ((a4).toNatClampNeg)) = 0) →
          (((a3) = 0) →
            DwaitsFor_8 n u (a2) (nI (0)) ((a4) + (-1)) m) ∧
          (¬ ((a3) = 0) →
            DwaitsFor_8 n u (a2) (nI (1)) ((a4) + (-1)) m)) ∧
        (¬ ((m 7 ((a4).toNatClampNeg)) = 0) →
          (((a3) = 0) →
            (¬ (a4) < 0) ∧
            (((a4).toNatClampNeg) < 12) ∧
            (((m 7 ((a4).toNatClampNeg)) = (nI (2))) →
              DwaitsFor_8 n u (a4) (nI (1)) ((a4) + (-1)) m) ∧
            (¬ ((m 7 ((a4).toNatClampNeg)) = (nI (2))) →
              DwaitsFor_8 n u (a2) (nI (1)) ((a4) + (-1)) m)) ∧
          (¬ ((a3) = 0) →
            (¬ (a4) < 0) ∧
            (((a4).toNatClampNeg) < 12) ∧
            (((m 7 ((a4).toNatClampNeg)) = (nI (2))) →
              DwaitsFor_8 n u (a4) (nI (1)) ((a4) + (-1)) m) ∧
            (¬ ((m 7 ((a4).toNatClampNeg)) = (nI (2))) →
              DwaitsFor_8 n u (a2) (nI (1)) ((a4) + (-1)) m)))) ∧
      (¬ ((m 11 ((a4).toNatClampNeg)) = (nI (u))) →
        (((a3) = 0) →
          DwaitsFor_8 n u (a2) (nI (0)) ((a4) + (-1)) m) ∧
        (¬ ((a3) = 0) →
          DwaitsFor_8 n u (a2) (nI (1)) ((a4) + (-1)) m)))
set_option maxRecDepth 100000 in
set_option maxHeartbeats 4000000 in
theorem w_waitsFor_8 {tt : Prop} : ∀ (n : Nat) (u : Nat) (a2 : Int32) (a3 : Int32) (a4 : Int32) (m : mD) (hD : DwaitsFor_8 n u a2 a3 a4 m), mV mX11_waitsFor 5 tt (mQv (FwaitsFor_8 n u a2 a3 a4 m)) 8 [some (.ref (0)), some (.int (nI (u))), some (.int (a2)), some (.int (a3)), some (.int (a4)), none] [] m := by
  intro n
  induction n with
  | zero => intros; rename_i hD; exact hD.elim
  | succ n ih =>
    intro u a2 a3 a4 m hD
    refine ab_iload (pc := 8) dX11_waitsFor_8 rfl ?_
    refine ab_iconst (pc := 10) (v := nI 4) dX11_waitsFor_10 (by decide) ?_
    refine ab_icmp_lt (pc := 11) (tgt := 86) dX11_waitsFor_11 (by decide) (fun c_11 => ?_) (fun c_11 => ?_)
    · replace hD := hD.1 c_11
      refine ab_iload_n (pc := 86) dX11_waitsFor_86 rfl rfl ?_
      refine ab_if_lt (pc := 87) (tgt := 104) dX11_waitsFor_87 (by decide) (fun c_87 => ?_) (fun c_87 => ?_)
      · replace hD := hD.1 c_87
        refine ab_iload_n (pc := 104) dX11_waitsFor_104 rfl rfl ?_
        refine ab_if_eq (pc := 105) (tgt := 118) dX11_waitsFor_105 (by decide) (fun c_105 => ?_) (fun c_105 => ?_)
        · replace hD := hD.1 c_105
          refine ab_aload_n (pc := 118) dX11_waitsFor_118 rfl rfl ?_
          refine ab_iconst (pc := 119) (v := nI 3) dX11_waitsFor_119 (by decide) ?_
          refine ab_iload_n (pc := 120) dX11_waitsFor_120 rfl rfl ?_
          refine ab_bipush (pc := 121) (v := -10) dX11_waitsFor_121 (by decide) ?_
          obtain ⟨o1, hD⟩ := hD
          refine mo_invv (N := mX11_tells) (pc := 123) (d' := 4) (av := [_, _, _]) dX11_waitsFor_123 ml_X11_196 fv_X11_tells (Nat.le_of_ble_eq_true rfl) (by decide) (c_tells _ _ _ _ o1) ?_
          refine mo_vr (pc := 126) dX11_waitsFor_126 rfl ?_
          first | (rw [FwaitsFor_8]; (try dsimp only); rw [if_pos c_11, if_pos c_87, if_pos c_105]; done) | (rw [FwaitsFor_8]; (try dsimp only); rw [if_pos c_11, if_pos c_87, if_pos c_105]; rfl)
        · replace hD := hD.2 c_105
          refine ab_aload_n (pc := 108) dX11_waitsFor_108 rfl rfl ?_
          refine mo_gr (pc := 109) dX11_waitsFor_109 fl_X11_89 rfl rfl ?_
          refine ab_iload_n (pc := 112) dX11_waitsFor_112 rfl rfl ?_
          refine ab_iconst (pc := 113) (v := nI 1) dX11_waitsFor_113 (by decide) ?_
          obtain ⟨o3, hD⟩ := hD
          refine mo_zst (pc := 114) dX11_waitsFor_114 (by decide) rfl o3 (by decide) (Or.inr rfl) ?_
          refine ab_goto (pc := 115) (tgt := 126) dX11_waitsFor_115 (by decide) ?_
          refine mo_vr (pc := 126) dX11_waitsFor_126 rfl ?_
          first | (rw [FwaitsFor_8]; (try dsimp only); rw [if_pos c_11, if_pos c_87, if_neg c_105]; done) | (rw [FwaitsFor_8]; (try dsimp only); rw [if_pos c_11, if_pos c_87, if_neg c_105]; rfl)
      · replace hD := hD.2 c_87
        refine ab_aload_n (pc := 90) dX11_waitsFor_90 rfl rfl ?_
        refine ab_iconst (pc := 91) (v := nI 3) dX11_waitsFor_91 (by decide) ?_
        refine ab_iload_n (pc := 92) dX11_waitsFor_92 rfl rfl ?_
        refine ab_aload_n (pc := 93) dX11_waitsFor_93 rfl rfl ?_
        refine ab_iload_n (pc := 94) dX11_waitsFor_94 rfl rfl ?_
        obtain ⟨o5, hD⟩ := hD
        refine ab_stk1 (congrArg Value.int (ab_nat o5)) ?_
        obtain ⟨o6, hD⟩ := hD
        refine mo_invi (N := mX11_freed) (pc := 95) (d' := 0) (av := [_]) dX11_waitsFor_95 ml_X11_257 fv_X11_freed (Nat.le_of_ble_eq_true rfl) (by decide) (c_freed _ _ o6) ?_
        obtain ⟨o8, hD⟩ := hD
        refine mo_invv (N := mX11_tells) (pc := 98) (d' := 4) (av := [_, _, _]) dX11_waitsFor_98 ml_X11_196 fv_X11_tells (Nat.le_of_ble_eq_true rfl) (by decide) (c_tells _ _ _ _ o8) ?_
        refine ab_goto (pc := 101) (tgt := 126) dX11_waitsFor_101 (by decide) ?_
        refine mo_vr (pc := 126) dX11_waitsFor_126 rfl ?_
        first | (rw [FwaitsFor_8]; (try dsimp only); rw [if_pos c_11, if_neg c_87]; done) | (rw [FwaitsFor_8]; (try dsimp only); rw [if_pos c_11, if_neg c_87]; rfl)
    · replace hD := hD.2 c_11
      refine ab_aload_n (pc := 14) dX11_waitsFor_14 rfl rfl ?_
      refine mo_gr (pc := 15) dX11_waitsFor_15 fl_X11_83 rfl rfl ?_
      refine ab_iload (pc := 18) dX11_waitsFor_18 rfl ?_
      obtain ⟨o10, hD⟩ := hD
      refine ab_nat1 (ab_nat o10) ?_
      obtain ⟨o11, hD⟩ := hD
      refine mo_ild (pc := 20) dX11_waitsFor_20 (by decide) rfl o11 (by decide) ?_
      refine ab_iload_n (pc := 21) dX11_waitsFor_21 rfl rfl ?_
      refine ab_icmp_ne (pc := 22) (tgt := 39) dX11_waitsFor_22 (by decide) (fun c_22 => ?_) (fun c_22 => ?_)
      · replace hD := hD.2 c_22
        refine ab_iconst (pc := 39) (v := nI 0) dX11_waitsFor_39 (by decide) ?_
        refine ab_istore (pc := 40) dX11_waitsFor_40 (Nat.le_of_ble_eq_true rfl) rfl ?_
        refine ab_iload_n (pc := 42) dX11_waitsFor_42 rfl rfl ?_
        refine ab_if_ne (pc := 43) (tgt := 51) dX11_waitsFor_43 (by decide) (fun c_43 => ?_) (fun c_43 => ?_)
        · replace hD := hD.2 c_43
          refine ab_iconst (pc := 51) (v := nI 1) dX11_waitsFor_51 (by decide) ?_
          refine ab_goto (pc := 52) (tgt := 56) dX11_waitsFor_52 (by decide) ?_
          refine ab_istore_n (pc := 56) dX11_waitsFor_56 rfl (Nat.le_of_ble_eq_true rfl) rfl ?_
          refine ab_iload (pc := 57) dX11_waitsFor_57 rfl ?_
          refine ab_if_eqN (pc := 59) (tgt := 78) dX11_waitsFor_59 (by decide) (by decide) (fun c_59 => ?_) (fun c_59 => ?_)
          · refine ab_iload_n (pc := 78) dX11_waitsFor_78 rfl rfl ?_
            refine ab_istore_n (pc := 79) dX11_waitsFor_79 rfl (Nat.le_of_ble_eq_true rfl) rfl ?_
            refine ab_iinc (pc := 80) (v := _ + (-1)) dX11_waitsFor_80 rfl rfl (Nat.le_of_ble_eq_true rfl) rfl ?_
            refine ab_goto (pc := 83) (tgt := 8) dX11_waitsFor_83 (by decide) ?_
            refine ab_wk (ls2 := [some _, some _, some _, some _, some _, none]) (And.intro rfl (And.intro rfl (And.intro rfl (And.intro rfl (And.intro rfl trivial))))) ?_
            refine mo_eqv ?_ (ih _ _ _ _ _ hD)
            first | (rw [FwaitsFor_8]; (try dsimp only); rw [if_neg c_11, if_neg c_22, if_neg c_43]; done) | (rw [FwaitsFor_8]; (try dsimp only); rw [if_neg c_11, if_neg c_22, if_neg c_43]; rfl)
          · exact absurd (by decide) c_59
        · replace hD := hD.1 c_43
          refine ab_iload (pc := 46) dX11_waitsFor_46 rfl ?_
          refine ab_if_eqN (pc := 48) (tgt := 55) dX11_waitsFor_48 (by decide) (by decide) (fun c_48 => ?_) (fun c_48 => ?_)
          · refine ab_iconst (pc := 55) (v := nI 0) dX11_waitsFor_55 (by decide) ?_
            refine ab_istore_n (pc := 56) dX11_waitsFor_56 rfl (Nat.le_of_ble_eq_true rfl) rfl ?_
            refine ab_iload (pc := 57) dX11_waitsFor_57 rfl ?_
            refine ab_if_eqN (pc := 59) (tgt := 78) dX11_waitsFor_59 (by decide) (by decide) (fun c_59 => ?_) (fun c_59 => ?_)
            · refine ab_iload_n (pc := 78) dX11_waitsFor_78 rfl rfl ?_
              refine ab_istore_n (pc := 79) dX11_waitsFor_79 rfl (Nat.le_of_ble_eq_true rfl) rfl ?_
              refine ab_iinc (pc := 80) (v := _ + (-1)) dX11_waitsFor_80 rfl rfl (Nat.le_of_ble_eq_true rfl) rfl ?_
              refine ab_goto (pc := 83) (tgt := 8) dX11_waitsFor_83 (by decide) ?_
              refine ab_wk (ls2 := [some _, some _, some _, some _, some _, none]) (And.intro rfl (And.intro rfl (And.intro rfl (And.intro rfl (And.intro rfl trivial))))) ?_
              refine mo_eqv ?_ (ih _ _ _ _ _ hD)
              first | (rw [FwaitsFor_8]; (try dsimp only); rw [if_neg c_11, if_neg c_22, if_pos c_43]; done) | (rw [FwaitsFor_8]; (try dsimp only); rw [if_neg c_11, if_neg c_22, if_pos c_43]; rfl)
            · exact absurd (by decide) c_59
          · exact absurd (by decide) c_48
      · replace hD := hD.1 c_22
        refine ab_aload_n (pc := 25) dX11_waitsFor_25 rfl rfl ?_
        refine mo_gr (pc := 26) dX11_waitsFor_26 fl_X11_19 rfl rfl ?_
        refine ab_iload (pc := 29) dX11_waitsFor_29 rfl ?_
        obtain ⟨o12, hD⟩ := hD
        refine ab_nat1 (ab_nat o12) ?_
        obtain ⟨o13, hD⟩ := hD
        refine mo_ild (pc := 31) dX11_waitsFor_31 (by decide) rfl o13 (by decide) ?_
        refine ab_if_eq (pc := 32) (tgt := 39) dX11_waitsFor_32 (by decide) (fun c_32 => ?_) (fun c_32 => ?_)
        · replace hD := hD.1 c_32
          refine ab_iconst (pc := 39) (v := nI 0) dX11_waitsFor_39 (by decide) ?_
          refine ab_istore (pc := 40) dX11_waitsFor_40 (Nat.le_of_ble_eq_true rfl) rfl ?_
          refine ab_iload_n (pc := 42) dX11_waitsFor_42 rfl rfl ?_
          refine ab_if_ne (pc := 43) (tgt := 51) dX11_waitsFor_43 (by decide) (fun c_43 => ?_) (fun c_43 => ?_)
          · replace hD := hD.2 c_43
            refine ab_iconst (pc := 51) (v := nI 1) dX11_waitsFor_51 (by decide) ?_
            refine ab_goto (pc := 52) (tgt := 56) dX11_waitsFor_52 (by decide) ?_
            refine ab_istore_n (pc := 56) dX11_waitsFor_56 rfl (Nat.le_of_ble_eq_true rfl) rfl ?_
            refine ab_iload (pc := 57) dX11_waitsFor_57 rfl ?_
            refine ab_if_eqN (pc := 59) (tgt := 78) dX11_waitsFor_59 (by decide) (by decide) (fun c_59 => ?_) (fun c_59 => ?_)
            · refine ab_iload_n (pc := 78) dX11_waitsFor_78 rfl rfl ?_
              refine ab_istore_n (pc := 79) dX11_waitsFor_79 rfl (Nat.le_of_ble_eq_true rfl) rfl ?_
              refine ab_iinc (pc := 80) (v := _ + (-1)) dX11_waitsFor_80 rfl rfl (Nat.le_of_ble_eq_true rfl) rfl ?_
              refine ab_goto (pc := 83) (tgt := 8) dX11_waitsFor_83 (by decide) ?_
              refine ab_wk (ls2 := [some _, some _, some _, some _, some _, none]) (And.intro rfl (And.intro rfl (And.intro rfl (And.intro rfl (And.intro rfl trivial))))) ?_
              refine mo_eqv ?_ (ih _ _ _ _ _ hD)
              first | (rw [FwaitsFor_8]; (try dsimp only); rw [if_neg c_11, if_pos c_22, if_pos c_32, if_neg c_43]; done) | (rw [FwaitsFor_8]; (try dsimp only); rw [if_neg c_11, if_pos c_22, if_pos c_32, if_neg c_43]; rfl)
            · exact absurd (by decide) c_59
          · replace hD := hD.1 c_43
            refine ab_iload (pc := 46) dX11_waitsFor_46 rfl ?_
            refine ab_if_eqN (pc := 48) (tgt := 55) dX11_waitsFor_48 (by decide) (by decide) (fun c_48 => ?_) (fun c_48 => ?_)
            · refine ab_iconst (pc := 55) (v := nI 0) dX11_waitsFor_55 (by decide) ?_
              refine ab_istore_n (pc := 56) dX11_waitsFor_56 rfl (Nat.le_of_ble_eq_true rfl) rfl ?_
              refine ab_iload (pc := 57) dX11_waitsFor_57 rfl ?_
              refine ab_if_eqN (pc := 59) (tgt := 78) dX11_waitsFor_59 (by decide) (by decide) (fun c_59 => ?_) (fun c_59 => ?_)
              · refine ab_iload_n (pc := 78) dX11_waitsFor_78 rfl rfl ?_
                refine ab_istore_n (pc := 79) dX11_waitsFor_79 rfl (Nat.le_of_ble_eq_true rfl) rfl ?_
                refine ab_iinc (pc := 80) (v := _ + (-1)) dX11_waitsFor_80 rfl rfl (Nat.le_of_ble_eq_true rfl) rfl ?_
                refine ab_goto (pc := 83) (tgt := 8) dX11_waitsFor_83 (by decide) ?_
                refine ab_wk (ls2 := [some _, some _, some _, some _, some _, none]) (And.intro rfl (And.intro rfl (And.intro rfl (And.intro rfl (And.intro rfl trivial))))) ?_
                refine mo_eqv ?_ (ih _ _ _ _ _ hD)
                first | (rw [FwaitsFor_8]; (try dsimp only); rw [if_neg c_11, if_pos c_22, if_pos c_32, if_pos c_43]; done) | (rw [FwaitsFor_8]; (try dsimp only); rw [if_neg c_11, if_pos c_22, if_pos c_32, if_pos c_43]; rfl)
              · exact absurd (by decide) c_59
            · exact absurd (by decide) c_48
        · replace hD := hD.2 c_32
          refine ab_iconst (pc := 35) (v := nI 1) dX11_waitsFor_35 (by decide) ?_
          refine ab_goto (pc := 36) (tgt := 40) dX11_waitsFor_36 (by decide) ?_
          refine ab_istore (pc := 40) dX11_waitsFor_40 (Nat.le_of_ble_eq_true rfl) rfl ?_
          refine ab_iload_n (pc := 42) dX11_waitsFor_42 rfl rfl ?_
          refine ab_if_ne (pc := 43) (tgt := 51) dX11_waitsFor_43 (by decide) (fun c_43 => ?_) (fun c_43 => ?_)
          · replace hD := hD.2 c_43
            refine ab_iconst (pc := 51) (v := nI 1) dX11_waitsFor_51 (by decide) ?_
            refine ab_goto (pc := 52) (tgt := 56) dX11_waitsFor_52 (by decide) ?_
            refine ab_istore_n (pc := 56) dX11_waitsFor_56 rfl (Nat.le_of_ble_eq_true rfl) rfl ?_
            refine ab_iload (pc := 57) dX11_waitsFor_57 rfl ?_
            refine ab_if_eqN (pc := 59) (tgt := 78) dX11_waitsFor_59 (by decide) (by decide) (fun c_59 => ?_) (fun c_59 => ?_)
            · exact absurd c_59 (by decide)
            · refine ab_aload_n (pc := 62) dX11_waitsFor_62 rfl rfl ?_
              refine mo_gr (pc := 63) dX11_waitsFor_63 fl_X11_19 rfl rfl ?_
              refine ab_iload (pc := 66) dX11_waitsFor_66 rfl ?_
              obtain ⟨o14, hD⟩ := hD
              refine ab_nat1 (ab_nat o14) ?_
              obtain ⟨o15, hD⟩ := hD
              refine mo_ild (pc := 68) dX11_waitsFor_68 (by decide) rfl o15 (by decide) ?_
              refine ab_iconst (pc := 69) (v := nI 2) dX11_waitsFor_69 (by decide) ?_
              refine ab_icmp_ne (pc := 70) (tgt := 78) dX11_waitsFor_70 (by decide) (fun c_70 => ?_) (fun c_70 => ?_)
              · replace hD := hD.2 c_70
                refine ab_iload_n (pc := 78) dX11_waitsFor_78 rfl rfl ?_
                refine ab_istore_n (pc := 79) dX11_waitsFor_79 rfl (Nat.le_of_ble_eq_true rfl) rfl ?_
                refine ab_iinc (pc := 80) (v := _ + (-1)) dX11_waitsFor_80 rfl rfl (Nat.le_of_ble_eq_true rfl) rfl ?_
                refine ab_goto (pc := 83) (tgt := 8) dX11_waitsFor_83 (by decide) ?_
                refine ab_wk (ls2 := [some _, some _, some _, some _, some _, none]) (And.intro rfl (And.intro rfl (And.intro rfl (And.intro rfl (And.intro rfl trivial))))) ?_
                refine mo_eqv ?_ (ih _ _ _ _ _ hD)
                first | (rw [FwaitsFor_8]; (try dsimp only); rw [if_neg c_11, if_pos c_22, if_neg c_32, if_neg c_43, if_neg c_70]; done) | (rw [FwaitsFor_8]; (try dsimp only); rw [if_neg c_11, if_pos c_22, if_neg c_32, if_neg c_43, if_neg c_70]; rfl)
              · replace hD := hD.1 c_70
                refine ab_iload (pc := 73) dX11_waitsFor_73 rfl ?_
                refine ab_goto (pc := 75) (tgt := 79) dX11_waitsFor_75 (by decide) ?_
                refine ab_istore_n (pc := 79) dX11_waitsFor_79 rfl (Nat.le_of_ble_eq_true rfl) rfl ?_
                refine ab_iinc (pc := 80) (v := _ + (-1)) dX11_waitsFor_80 rfl rfl (Nat.le_of_ble_eq_true rfl) rfl ?_
                refine ab_goto (pc := 83) (tgt := 8) dX11_waitsFor_83 (by decide) ?_
                refine ab_wk (ls2 := [some _, some _, some _, some _, some _, none]) (And.intro rfl (And.intro rfl (And.intro rfl (And.intro rfl (And.intro rfl trivial))))) ?_
                refine mo_eqv ?_ (ih _ _ _ _ _ hD)
                first | (rw [FwaitsFor_8]; (try dsimp only); rw [if_neg c_11, if_pos c_22, if_neg c_32, if_neg c_43, if_pos c_70]; done) | (rw [FwaitsFor_8]; (try dsimp only); rw [if_neg c_11, if_pos c_22, if_neg c_32, if_neg c_43, if_pos c_70]; rfl)
          · replace hD := hD.1 c_43
            refine ab_iload (pc := 46) dX11_waitsFor_46 rfl ?_
            refine ab_if_eqN (pc := 48) (tgt := 55) dX11_waitsFor_48 (by decide) (by decide) (fun c_48 => ?_) (fun c_48 => ?_)
            · exact absurd c_48 (by decide)
            · refine ab_iconst (pc := 51) (v := nI 1) dX11_waitsFor_51 (by decide) ?_
              refine ab_goto (pc := 52) (tgt := 56) dX11_waitsFor_52 (by decide) ?_
              refine ab_istore_n (pc := 56) dX11_waitsFor_56 rfl (Nat.le_of_ble_eq_true rfl) rfl ?_
              refine ab_iload (pc := 57) dX11_waitsFor_57 rfl ?_
              refine ab_if_eqN (pc := 59) (tgt := 78) dX11_waitsFor_59 (by decide) (by decide) (fun c_59 => ?_) (fun c_59 => ?_)
              · exact absurd c_59 (by decide)
              · refine ab_aload_n (pc := 62) dX11_waitsFor_62 rfl rfl ?_
                refine mo_gr (pc := 63) dX11_waitsFor_63 fl_X11_19 rfl rfl ?_
                refine ab_iload (pc := 66) dX11_waitsFor_66 rfl ?_
                obtain ⟨o16, hD⟩ := hD
                refine ab_nat1 (ab_nat o16) ?_
                obtain ⟨o17, hD⟩ := hD
                refine mo_ild (pc := 68) dX11_waitsFor_68 (by decide) rfl o17 (by decide) ?_
                refine ab_iconst (pc := 69) (v := nI 2) dX11_waitsFor_69 (by decide) ?_
                refine ab_icmp_ne (pc := 70) (tgt := 78) dX11_waitsFor_70 (by decide) (fun c_70 => ?_) (fun c_70 => ?_)
                · replace hD := hD.2 c_70
                  refine ab_iload_n (pc := 78) dX11_waitsFor_78 rfl rfl ?_
                  refine ab_istore_n (pc := 79) dX11_waitsFor_79 rfl (Nat.le_of_ble_eq_true rfl) rfl ?_
                  refine ab_iinc (pc := 80) (v := _ + (-1)) dX11_waitsFor_80 rfl rfl (Nat.le_of_ble_eq_true rfl) rfl ?_
                  refine ab_goto (pc := 83) (tgt := 8) dX11_waitsFor_83 (by decide) ?_
                  refine ab_wk (ls2 := [some _, some _, some _, some _, some _, none]) (And.intro rfl (And.intro rfl (And.intro rfl (And.intro rfl (And.intro rfl trivial))))) ?_
                  refine mo_eqv ?_ (ih _ _ _ _ _ hD)
                  first | (rw [FwaitsFor_8]; (try dsimp only); rw [if_neg c_11, if_pos c_22, if_neg c_32, if_pos c_43, if_neg c_70]; done) | (rw [FwaitsFor_8]; (try dsimp only); rw [if_neg c_11, if_pos c_22, if_neg c_32, if_pos c_43, if_neg c_70]; rfl)
                · replace hD := hD.1 c_70
                  refine ab_iload (pc := 73) dX11_waitsFor_73 rfl ?_
                  refine ab_goto (pc := 75) (tgt := 79) dX11_waitsFor_75 (by decide) ?_
                  refine ab_istore_n (pc := 79) dX11_waitsFor_79 rfl (Nat.le_of_ble_eq_true rfl) rfl ?_
                  refine ab_iinc (pc := 80) (v := _ + (-1)) dX11_waitsFor_80 rfl rfl (Nat.le_of_ble_eq_true rfl) rfl ?_
                  refine ab_goto (pc := 83) (tgt := 8) dX11_waitsFor_83 (by decide) ?_
                  refine ab_wk (ls2 := [some _, some _, some _, some _, some _, none]) (And.intro rfl (And.intro rfl (And.intro rfl (And.intro rfl (And.intro rfl trivial))))) ?_
                  refine mo_eqv ?_ (ih _ _ _ _ _ hD)
                  first | (rw [FwaitsFor_8]; (try dsimp only); rw [if_neg c_11, if_pos c_22, if_neg c_32, if_pos c_43, if_pos c_70]; done) | (rw [FwaitsFor_8]; (try dsimp only); rw [if_neg c_11, if_pos c_22, if_neg c_32, if_pos c_43, if_pos c_70]; rfl)
def FwaitsFor (u : Nat) (m : mD) : mD :=
  FwaitsFor_8 9 u (-1) (nI (0)) (nI (11)) m
def DwaitsFor (u : Nat) (m : mD) : Prop :=
  DwaitsFor_8 9 u (-1) (nI (0)) (nI (11)) m
set_option maxRecDepth 100000 in
set_option maxHeartbeats 4000000 in
theorem c_waitsFor {tt : Prop} (u : Nat) (m : mD) (hD : DwaitsFor u m) : ab_Met mX11_waitsFor 5 0 0 tt [.ref (0), .int (nI (u))] (sM m) (mQv (FwaitsFor u m)) := by
  refine ab_Met.of rfl (Nat.le_of_ble_eq_true rfl) ?_
  show mV mX11_waitsFor 5 tt (mQv (FwaitsFor u m)) 0 [some (.ref (0)), some (.int (nI (u))), none, none, none, none] [] m
  refine ab_iconst (pc := 0) (v := -1) dX11_waitsFor_0 (by decide) ?_
  refine ab_istore_n (pc := 1) dX11_waitsFor_1 rfl (Nat.le_of_ble_eq_true rfl) rfl ?_
  refine ab_iconst (pc := 2) (v := nI 0) dX11_waitsFor_2 (by decide) ?_
  refine ab_istore_n (pc := 3) dX11_waitsFor_3 rfl (Nat.le_of_ble_eq_true rfl) rfl ?_
  refine ab_bipush (pc := 4) (v := nI 11) dX11_waitsFor_4 (by decide) ?_
  refine ab_istore (pc := 6) dX11_waitsFor_6 (Nat.le_of_ble_eq_true rfl) rfl ?_
  refine ab_wk (ls2 := [some _, some _, some _, some _, some _, none]) (And.intro rfl (And.intro rfl (And.intro rfl (And.intro rfl (And.intro rfl trivial))))) ?_
  refine mo_eqv ?_ (w_waitsFor_8 9 _ _ _ _ _ hD)
  first | rfl | (rw [FwaitsFor]; done) | (rw [FwaitsFor]; rfl)
def Fprocesses_11 : Nat → Nat → mD → mD
  | 0, _, m => m
  | n + 1, a1, m =>
    if (m 0 43) = 0 then
      if a1 = ((m 2 3).toNatClampNeg) then
        m
      else
        let z7 := FtakeOut 3 a1 m
        if (z7 6 1) = 8 then
          let z10 := Fforks ((z7 6 0).toNatClampNeg) z7
          z10
        else if (z7 6 1) = 9 then
          let z14 := Fends (z7 6 0) ((z7 6 0).toNatClampNeg) (FfloorMod_7cf53 (z7 6 2) (nI (256))) (nI (9)) z7
          z14
        else if (z7 6 1) = 10 then
          let z17 := FwaitsFor ((z7 6 0).toNatClampNeg) z7
          z17
        else if (z7 6 1) = 11 then
          if (FisUser (z7 6 2)) = 0 then
            let z20 := Ftells 3 ((z7 6 0).toNatClampNeg) (-11) z7
            z20
          else
            if (z7 11 ((z7 6 2).toNatClampNeg)) = (z7 6 0) then
              if (z7 7 ((z7 6 2).toNatClampNeg)) = (nI (1)) then
                let z33 := Fends (z7 6 0) ((z7 6 2).toNatClampNeg) (nI (255)) (nI (11)) z7
                z33
              else
                let z30 := Ftells 3 ((z7 6 0).toNatClampNeg) (-11) z7
                z30
            else
              let z25 := Ftells 3 ((z7 6 0).toNatClampNeg) (-11) z7
              z25
        else if (z7 6 1) = 12 then
          if 0 ≤ (z7 11 ((z7 6 0).toNatClampNeg)) then
            let z40 := Ftells 3 ((z7 6 0).toNatClampNeg) (z7 11 ((z7 6 0).toNatClampNeg)) z7
            z40
          else
            let z43 := Ftells 3 ((z7 6 0).toNatClampNeg) (nI (0)) z7
            z43
        else if (z7 6 1) = 32 then
          if (z7 0 43) = 0 then
            z7
          else
            let z45 := Fdone  z7
            z45
        else
          z7
    else
      if ((m 2 3).toNatClampNeg) ≤ a1 then
        if a1 = ((m 2 3).toNatClampNeg) then
          m
        else
          let z53 := FtakeOut 3 a1 m
          if (z53 6 1) = 8 then
            let z56 := Fforks ((z53 6 0).toNatClampNeg) z53
            z56
          else if (z53 6 1) = 9 then
            let z60 := Fends (z53 6 0) ((z53 6 0).toNatClampNeg) (FfloorMod_7cf53 (z53 6 2) (nI (256))) (nI (9)) z53
            z60
          else if (z53 6 1) = 10 then
            let z63 := FwaitsFor ((z53 6 0).toNatClampNeg) z53
            z63
          else if (z53 6 1) = 11 then
            if (FisUser (z53 6 2)) = 0 then
              let z66 := Ftells 3 ((z53 6 0).toNatClampNeg) (-11) z53
              z66
            else
              if (z53 11 ((z53 6 2).toNatClampNeg)) = (z53 6 0) then
                if (z53 7 ((z53 6 2).toNatClampNeg)) = (nI (1)) then
                  let z79 := Fends (z53 6 0) ((z53 6 2).toNatClampNeg) (nI (255)) (nI (11)) z53
                  z79
                else
                  let z76 := Ftells 3 ((z53 6 0).toNatClampNeg) (-11) z53
                  z76
              else
                let z71 := Ftells 3 ((z53 6 0).toNatClampNeg) (-11) z53
                z71
          else if (z53 6 1) = 12 then
            if 0 ≤ (z53 11 ((z53 6 0).toNatClampNeg)) then
              let z86 := Ftells 3 ((z53 6 0).toNatClampNeg) (z53 11 ((z53 6 0).toNatClampNeg)) z53
              z86
            else
              let z89 := Ftells 3 ((z53 6 0).toNatClampNeg) (nI (0)) z53
              z89
          else if (z53 6 1) = 32 then
            if (z53 0 43) = 0 then
              z53
            else
              let z91 := Fdone  z53
              z91
          else
            z53
      else
        if (Ffield 3 a1 0 m) = (nI (2)) then
          if a1 = ((m 2 3).toNatClampNeg) then
            m
          else
            let z97 := FtakeOut 3 a1 m
            if (z97 6 1) = 8 then
              let z100 := Fforks ((z97 6 0).toNatClampNeg) z97
              z100
            else if (z97 6 1) = 9 then
              let z104 := Fends (z97 6 0) ((z97 6 0).toNatClampNeg) (FfloorMod_7cf53 (z97 6 2) (nI (256))) (nI (9)) z97
              z104
            else if (z97 6 1) = 10 then
              let z107 := FwaitsFor ((z97 6 0).toNatClampNeg) z97
              z107
            else if (z97 6 1) = 11 then
              if (FisUser (z97 6 2)) = 0 then
                let z110 := Ftells 3 ((z97 6 0).toNatClampNeg) (-11) z97
                z110
              else
                if (z97 11 ((z97 6 2).toNatClampNeg)) = (z97 6 0) then
                  if (z97 7 ((z97 6 2).toNatClampNeg)) = (nI (1)) then
                    let z123 := Fends (z97 6 0) ((z97 6 2).toNatClampNeg) (nI (255)) (nI (11)) z97
                    z123
                  else
                    let z120 := Ftells 3 ((z97 6 0).toNatClampNeg) (-11) z97
                    z120
                else
                  let z115 := Ftells 3 ((z97 6 0).toNatClampNeg) (-11) z97
                  z115
            else if (z97 6 1) = 12 then
              if 0 ≤ (z97 11 ((z97 6 0).toNatClampNeg)) then
                let z130 := Ftells 3 ((z97 6 0).toNatClampNeg) (z97 11 ((z97 6 0).toNatClampNeg)) z97
                z130
              else
                let z133 := Ftells 3 ((z97 6 0).toNatClampNeg) (nI (0)) z97
                z133
            else if (z97 6 1) = 32 then
              if (z97 0 43) = 0 then
                z97
              else
                let z135 := Fdone  z97
                z135
            else
              z97
        else
          if (Ffield 3 a1 1 m) = 0 then
            if a1 = ((m 2 3).toNatClampNeg) then
              m
            else
              let z141 := FtakeOut 3 a1 m
              if (z141 6 1) = 8 then
                let z144 := Fforks ((z141 6 0).toNatClampNeg) z141
                z144
              else if (z141 6 1) = 9 then
                let z148 := Fends (z141 6 0) ((z141 6 0).toNatClampNeg) (FfloorMod_7cf53 (z141 6 2) (nI (256))) (nI (9)) z141
                z148
              else if (z141 6 1) = 10 then
                let z151 := FwaitsFor ((z141 6 0).toNatClampNeg) z141
                z151
              else if (z141 6 1) = 11 then
                if (FisUser (z141 6 2)) = 0 then
                  let z154 := Ftells 3 ((z141 6 0).toNatClampNeg) (-11) z141
                  z154
                else
                  if (z141 11 ((z141 6 2).toNatClampNeg)) = (z141 6 0) then
                    if (z141 7 ((z141 6 2).toNatClampNeg)) = (nI (1)) then
                      let z167 := Fends (z141 6 0) ((z141 6 2).toNatClampNeg) (nI (255)) (nI (11)) z141
                      z167
                    else
                      let z164 := Ftells 3 ((z141 6 0).toNatClampNeg) (-11) z141
                      z164
                  else
                    let z159 := Ftells 3 ((z141 6 0).toNatClampNeg) (-11) z141
                    z159
              else if (z141 6 1) = 12 then
                if 0 ≤ (z141 11 ((z141 6 0).toNatClampNeg)) then
                  let z174 := Ftells 3 ((z141 6 0).toNatClampNeg) (z141 11 ((z141 6 0).toNatClampNeg)) z141
                  z174
                else
                  let z177 := Ftells 3 ((z141 6 0).toNatClampNeg) (nI (0)) z141
                  z177
              else if (z141 6 1) = 32 then
                if (z141 0 43) = 0 then
                  z141
                else
                  let z179 := Fdone  z141
                  z179
              else
                z141
          else
            Fprocesses_11 n (a1 + 1) m
def Dprocesses_11 : Nat → Nat → mD → Prop
  | 0, _, _ => False
  | n + 1, a1, m =>
    (((m 0 43) = 0) →
      (¬ (m 2 3) < 0) ∧
      (a1 < 2147483648) ∧
      (((m 2 3).toNatClampNeg) < 2147483648) ∧
      ((a1 = ((m 2 3).toNatClampNeg)) →
        True) ∧
      (¬ (a1 = ((m 2 3).toNatClampNeg)) →
        (DtakeOut 3 a1 m) ∧
        let z7 := FtakeOut 3 a1 m
        ((z7 6 1) = 8 →
          (¬ (z7 6 0) < 0) ∧
          (Dforks ((z7 6 0).toNatClampNeg) z7) ∧
          let z10 := Fforks ((z7 6 0).toNatClampNeg) z7
          True) ∧
        ((z7 6 1) = 9 →
          (DfloorMod_7cf53 (z7 6 2) (nI (256)) z7) ∧
          (¬ (z7 6 0) < 0) ∧
          (Dends (z7 6 0) ((z7 6 0).toNatClampNeg) (FfloorMod_7cf53 (z7 6 2) (nI (256))) (nI (9)) z7) ∧
          let z14 := Fends (z7 6 0) ((z7 6 0).toNatClampNeg) (FfloorMod_7cf53 (z7 6 2) (nI (256))) (nI (9)) z7
          True) ∧
        ((z7 6 1) = 10 →
          (¬ (z7 6 0) < 0) ∧
          (DwaitsFor ((z7 6 0).toNatClampNeg) z7) ∧
          let z17 := FwaitsFor ((z7 6 0).toNatClampNeg) z7
          True) ∧
        ((z7 6 1) = 11 →
          (((FisUser (z7 6 2)) = 0) →
            (¬ (z7 6 0) < 0) ∧
            (Dtells 3 ((z7 6 0).toNatClampNeg) (-11) z7) ∧
            let z20 := Ftells 3 ((z7 6 0).toNatClampNeg) (-11) z7
            True) ∧
          (¬ ((FisUser (z7 6 2)) = 0) →
            (¬ (z7 6 2) < 0) ∧
            (((z7 6 2).toNatClampNeg) < 12) ∧
            (((z7 11 ((z7 6 2).toNatClampNeg)) = (z7 6 0)) →
              (¬ (z7 6 2) < 0) ∧
              (((z7 6 2).toNatClampNeg) < 12) ∧
              (((z7 7 ((z7 6 2).toNatClampNeg)) = (nI (1))) →
                (¬ (z7 6 2) < 0) ∧
                (Dends (z7 6 0) ((z7 6 2).toNatClampNeg) (nI (255)) (nI (11)) z7) ∧
                let z33 := Fends (z7 6 0) ((z7 6 2).toNatClampNeg) (nI (255)) (nI (11)) z7
                True) ∧
              (¬ ((z7 7 ((z7 6 2).toNatClampNeg)) = (nI (1))) →
                (¬ (z7 6 0) < 0) ∧
                (Dtells 3 ((z7 6 0).toNatClampNeg) (-11) z7) ∧
                let z30 := Ftells 3 ((z7 6 0).toNatClampNeg) (-11) z7
                True)) ∧
            (¬ ((z7 11 ((z7 6 2).toNatClampNeg)) = (z7 6 0)) →
              (¬ (z7 6 0) < 0) ∧
              (Dtells 3 ((z7 6 0).toNatClampNeg) (-11) z7) ∧
              let z25 := Ftells 3 ((z7 6 0).toNatClampNeg) (-11) z7
              True))) ∧
        ((z7 6 1) = 12 →
          (¬ (z7 6 0) < 0) ∧
          (((z7 6 0).toNatClampNeg) < 12) ∧
          ((0 ≤ (z7 11 ((z7 6 0).toNatClampNeg))) →
            (¬ (z7 6 0) < 0) ∧
            (((z7 6 0).toNatClampNeg) < 12) ∧
            (¬ (z7 6 0) < 0) ∧
            (Dtells 3 ((z7 6 0).toNatClampNeg) (z7 11 ((z7 6 0).toNatClampNeg)) z7) ∧
            let z40 := Ftells 3 ((z7 6 0).toNatClampNeg) (z7 11 ((z7 6 0).toNatClampNeg)) z7
            True) ∧
          (¬ (0 ≤ (z7 11 ((z7 6 0).toNatClampNeg))) →
            (¬ (z7 6 0) < 0) ∧
            (Dtells 3 ((z7 6 0).toNatClampNeg) (nI (0)) z7) ∧
            let z43 := Ftells 3 ((z7 6 0).toNatClampNeg) (nI (0)) z7
            True)) ∧
        ((z7 6 1) = 32 →
          (((z7 0 43) = 0) →
            True) ∧
          (¬ ((z7 0 43) = 0) →
            (Ddone  z7) ∧
            let z45 := Fdone  z7
            True)) ∧
        ((∀ c ∈ ([(8, 152), (9, 158), (10, 174), (11, 180), (12, 230), (32, 256)] : List (Int32 × Nat)), ¬ (z7 6 1) = c.1) →
          True))) ∧
    (¬ ((m 0 43) = 0) →
      (¬ (m 2 3) < 0) ∧
      (a1 < 2147483648) ∧
      (((m 2 3).toNatClampNeg) < 2147483648) ∧
      ((((m 2 3).toNatClampNeg) ≤ a1) →
        (¬ (m 2 3) < 0) ∧
        (a1 < 2147483648) ∧
        (((m 2 3).toNatClampNeg) < 2147483648) ∧
        ((a1 = ((m 2 3).toNatClampNeg)) →
          True) ∧
        (¬ (a1 = ((m 2 3).toNatClampNeg)) →
          (DtakeOut 3 a1 m) ∧
          let z53 := FtakeOut 3 a1 m
          ((z53 6 1) = 8 →
            (¬ (z53 6 0) < 0) ∧
            (Dforks ((z53 6 0).toNatClampNeg) z53) ∧
            let z56 := Fforks ((z53 6 0).toNatClampNeg) z53
            True) ∧
          ((z53 6 1) = 9 →
            (DfloorMod_7cf53 (z53 6 2) (nI (256)) z53) ∧
            (¬ (z53 6 0) < 0) ∧
            (Dends (z53 6 0) ((z53 6 0).toNatClampNeg) (FfloorMod_7cf53 (z53 6 2) (nI (256))) (nI (9)) z53) ∧
            let z60 := Fends (z53 6 0) ((z53 6 0).toNatClampNeg) (FfloorMod_7cf53 (z53 6 2) (nI (256))) (nI (9)) z53
            True) ∧
          ((z53 6 1) = 10 →
            (¬ (z53 6 0) < 0) ∧
            (DwaitsFor ((z53 6 0).toNatClampNeg) z53) ∧
            let z63 := FwaitsFor ((z53 6 0).toNatClampNeg) z53
            True) ∧
          ((z53 6 1) = 11 →
            (((FisUser (z53 6 2)) = 0) →
              (¬ (z53 6 0) < 0) ∧
              (Dtells 3 ((z53 6 0).toNatClampNeg) (-11) z53) ∧
              let z66 := Ftells 3 ((z53 6 0).toNatClampNeg) (-11) z53
              True) ∧
            (¬ ((FisUser (z53 6 2)) = 0) →
              (¬ (z53 6 2) < 0) ∧
              (((z53 6 2).toNatClampNeg) < 12) ∧
              (((z53 11 ((z53 6 2).toNatClampNeg)) = (z53 6 0)) →
                (¬ (z53 6 2) < 0) ∧
                (((z53 6 2).toNatClampNeg) < 12) ∧
                (((z53 7 ((z53 6 2).toNatClampNeg)) = (nI (1))) →
                  (¬ (z53 6 2) < 0) ∧
                  (Dends (z53 6 0) ((z53 6 2).toNatClampNeg) (nI (255)) (nI (11)) z53) ∧
                  let z79 := Fends (z53 6 0) ((z53 6 2).toNatClampNeg) (nI (255)) (nI (11)) z53
                  True) ∧
                (¬ ((z53 7 ((z53 6 2).toNatClampNeg)) = (nI (1))) →
                  (¬ (z53 6 0) < 0) ∧
                  (Dtells 3 ((z53 6 0).toNatClampNeg) (-11) z53) ∧
                  let z76 := Ftells 3 ((z53 6 0).toNatClampNeg) (-11) z53
                  True)) ∧
              (¬ ((z53 11 ((z53 6 2).toNatClampNeg)) = (z53 6 0)) →
                (¬ (z53 6 0) < 0) ∧
                (Dtells 3 ((z53 6 0).toNatClampNeg) (-11) z53) ∧
                let z71 := Ftells 3 ((z53 6 0).toNatClampNeg) (-11) z53
                True))) ∧
          ((z53 6 1) = 12 →
            (¬ (z53 6 0) < 0) ∧
            (((z53 6 0).toNatClampNeg) < 12) ∧
            ((0 ≤ (z53 11 ((z53 6 0).toNatClampNeg))) →
              (¬ (z53 6 0) < 0) ∧
              (((z53 6 0).toNatClampNeg) < 12) ∧
              (¬ (z53 6 0) < 0) ∧
              (Dtells 3 ((z53 6 0).toNatClampNeg) (z53 11 ((z53 6 0).toNatClampNeg)) z53) ∧
              let z86 := Ftells 3 ((z53 6 0).toNatClampNeg) (z53 11 ((z53 6 0).toNatClampNeg)) z53
              True) ∧
            (¬ (0 ≤ (z53 11 ((z53 6 0).toNatClampNeg))) →
              (¬ (z53 6 0) < 0) ∧
              (Dtells 3 ((z53 6 0).toNatClampNeg) (nI (0)) z53) ∧
              let z89 := Ftells 3 ((z53 6 0).toNatClampNeg) (nI (0)) z53
              True)) ∧
          ((z53 6 1) = 32 →
            (((z53 0 43) = 0) →
              True) ∧
            (¬ ((z53 0 43) = 0) →
              (Ddone  z53) ∧
              let z91 := Fdone  z53
              True)) ∧
          ((∀ c ∈ ([(8, 152), (9, 158), (10, 174), (11, 180), (12, 230), (32, 256)] : List (Int32 × Nat)), ¬ (z53 6 1) = c.1) →
            True))) ∧
      (¬ (((m 2 3).toNatClampNeg) ≤ a1) →
        (Dfield 3 a1 0 m) ∧
        (((Ffield 3 a1 0 m) = (nI (2))) →
          (¬ (m 2 3) < 0) ∧
          (a1 < 2147483648) ∧
          (((m 2 3).toNatClampNeg) < 2147483648) ∧
          ((a1 = ((m 2 3).toNatClampNeg)) →
            True) ∧
          (¬ (a1 = ((m 2 3).toNatClampNeg)) →
            (DtakeOut 3 a1 m) ∧
            let z97 := FtakeOut 3 a1 m
            ((z97 6 1) = 8 →
              (¬ (z97 6 0) < 0) ∧
              (Dforks ((z97 6 0).toNatClampNeg) z97) ∧
              let z100 := Fforks ((z97 6 0).toNatClampNeg) z97
              True) ∧
            ((z97 6 1) = 9 →
              (DfloorMod_7cf53 (z97 6 2) (nI (256)) z97) ∧
              (¬ (z97 6 0) < 0) ∧
              (Dends (z97 6 0) ((z97 6 0).toNatClampNeg) (FfloorMod_7cf53 (z97 6 2) (nI (256))) (nI (9)) z97) ∧
              let z104 := Fends (z97 6 0) ((z97 6 0).toNatClampNeg) (FfloorMod_7cf53 (z97 6 2) (nI (256))) (nI (9)) z97
              True) ∧
            ((z97 6 1) = 10 →
              (¬ (z97 6 0) < 0) ∧
              (DwaitsFor ((z97 6 0).toNatClampNeg) z97) ∧
              let z107 := FwaitsFor ((z97 6 0).toNatClampNeg) z97
              True) ∧
            ((z97 6 1) = 11 →
              (((FisUser (z97 6 2)) = 0) →
                (¬ (z97 6 0) < 0) ∧
                (Dtells 3 ((z97 6 0).toNatClampNeg) (-11) z97) ∧
                let z110 := Ftells 3 ((z97 6 0).toNatClampNeg) (-11) z97
                True) ∧
              (¬ ((FisUser (z97 6 2)) = 0) →
                (¬ (z97 6 2) < 0) ∧
                (((z97 6 2).toNatClampNeg) < 12) ∧
                (((z97 11 ((z97 6 2).toNatClampNeg)) = (z97 6 0)) →
                  (¬ (z97 6 2) < 0) ∧
                  (((z97 6 2).toNatClampNeg) < 12) ∧
                  (((z97 7 ((z97 6 2).toNatClampNeg)) = (nI (1))) →
                    (¬ (z97 6 2) < 0) ∧
                    (Dends (z97 6 0) ((z97 6 2).toNatClampNeg) (nI (255)) (nI (11)) z97) ∧
                    let z123 := Fends (z97 6 0) ((z97 6 2).toNatClampNeg) (nI (255)) (nI (11)) z97
                    True) ∧
                  (¬ ((z97 7 ((z97 6 2).toNatClampNeg)) = (nI (1))) →
                    (¬ (z97 6 0) < 0) ∧
                    (Dtells 3 ((z97 6 0).toNatClampNeg) (-11) z97) ∧
                    let z120 := Ftells 3 ((z97 6 0).toNatClampNeg) (-11) z97
                    True)) ∧
                (¬ ((z97 11 ((z97 6 2).toNatClampNeg)) = (z97 6 0)) →
                  (¬ (z97 6 0) < 0) ∧
                  (Dtells 3 ((z97 6 0).toNatClampNeg) (-11) z97) ∧
                  let z115 := Ftells 3 ((z97 6 0).toNatClampNeg) (-11) z97
                  True))) ∧
            ((z97 6 1) = 12 →
              (¬ (z97 6 0) < 0) ∧
              (((z97 6 0).toNatClampNeg) < 12) ∧
              ((0 ≤ (z97 11 ((z97 6 0).toNatClampNeg))) →
                (¬ (z97 6 0) < 0) ∧
                (((z97 6 0).toNatClampNeg) < 12) ∧
                (¬ (z97 6 0) < 0) ∧
                (Dtells 3 ((z97 6 0).toNatClampNeg) (z97 11 ((z97 6 0).toNatClampNeg)) z97) ∧
                let z130 := Ftells 3 ((z97 6 0).toNatClampNeg) (z97 11 ((z97 6 0).toNatClampNeg)) z97
                True) ∧
              (¬ (0 ≤ (z97 11 ((z97 6 0).toNatClampNeg))) →
                (¬ (z97 6 0) < 0) ∧
                (Dtells 3 ((z97 6 0).toNatClampNeg) (nI (0)) z97) ∧
                let z133 := Ftells 3 ((z97 6 0).toNatClampNeg) (nI (0)) z97
                True)) ∧
            ((z97 6 1) = 32 →
              (((z97 0 43) = 0) →
                True) ∧
              (¬ ((z97 0 43) = 0) →
                (Ddone  z97) ∧
                let z135 := Fdone  z97
                True)) ∧
            ((∀ c ∈ ([(8, 152), (9, 158), (10, 174), (11, 180), (12, 230), (32, 256)] : List (Int32 × Nat)), ¬ (z97 6 1) = c.1) →
              True))) ∧
        (¬ ((Ffield 3 a1 0 m) = (nI (2))) →
          (Dfield 3 a1 1 m) ∧
          (((Ffield 3 a1 1 m) = 0) →
            (¬ (m 2 3) < 0) ∧
            (a1 < 2147483648) ∧
            (((m 2 3).toNatClampNeg) < 2147483648) ∧
            ((a1 = ((m 2 3).toNatClampNeg)) →
              True) ∧
            (¬ (a1 = ((m 2 3).toNatClampNeg)) →
              (DtakeOut 3 a1 m) ∧
              let z141 := FtakeOut 3 a1 m
              ((z141 6 1) = 8 →
                (¬ (z141 6 0) < 0) ∧
                (Dforks ((z141 6 0).toNatClampNeg) z141) ∧
                let z144 := Fforks ((z141 6 0).toNatClampNeg) z141
                True) ∧
              ((z141 6 1) = 9 →
                (DfloorMod_7cf53 (z141 6 2) (nI (256)) z141) ∧
                (¬ (z141 6 0) < 0) ∧
                (Dends (z141 6 0) ((z141 6 0).toNatClampNeg) (FfloorMod_7cf53 (z141 6 2) (nI (256))) (nI (9)) z141) ∧
                let z148 := Fends (z141 6 0) ((z141 6 0).toNatClampNeg) (FfloorMod_7cf53 (z141 6 2) (nI (256))) (nI (9)) z141
                True) ∧
              ((z141 6 1) = 10 →
                (¬ (z141 6 0) < 0) ∧
                (DwaitsFor ((z141 6 0).toNatClampNeg) z141) ∧
                let z151 := FwaitsFor ((z141 6 0).toNatClampNeg) z141
                True) ∧
              ((z141 6 1) = 11 →
                (((FisUser (z141 6 2)) = 0) →
                  (¬ (z141 6 0) < 0) ∧
                  (Dtells 3 ((z141 6 0).toNatClampNeg) (-11) z141) ∧
                  let z154 := Ftells 3 ((z141 6 0).toNatClampNeg) (-11) z141
                  True) ∧
                (¬ ((FisUser (z141 6 2)) = 0) →
                  (¬ (z141 6 2) < 0) ∧
                  (((z141 6 2).toNatClampNeg) < 12) ∧
                  (((z141 11 ((z141 6 2).toNatClampNeg)) = (z141 6 0)) →
                    (¬ (z141 6 2) < 0) ∧
                    (((z141 6 2).toNatClampNeg) < 12) ∧
                    (((z141 7 ((z141 6 2).toNatClampNeg)) = (nI (1))) →
                      (¬ (z141 6 2) < 0) ∧
                      (Dends (z141 6 0) ((z141 6 2).toNatClampNeg) (nI (255)) (nI (11)) z141) ∧
                      let z167 := Fends (z141 6 0) ((z141 6 2).toNatClampNeg) (nI (255)) (nI (11)) z141
                      True) ∧
                    (¬ ((z141 7 ((z141 6 2).toNatClampNeg)) = (nI (1))) →
                      (¬ (z141 6 0) < 0) ∧
                      (Dtells 3 ((z141 6 0).toNatClampNeg) (-11) z141) ∧
                      let z164 := Ftells 3 ((z141 6 0).toNatClampNeg) (-11) z141
                      True)) ∧
                  (¬ ((z141 11 ((z141 6 2).toNatClampNeg)) = (z141 6 0)) →
                    (¬ (z141 6 0) < 0) ∧
                    (Dtells 3 ((z141 6 0).toNatClampNeg) (-11) z141) ∧
                    let z159 := Ftells 3 ((z141 6 0).toNatClampNeg) (-11) z141
                    True))) ∧
              ((z141 6 1) = 12 →
                (¬ (z141 6 0) < 0) ∧
                (((z141 6 0).toNatClampNeg) < 12) ∧
                ((0 ≤ (z141 11 ((z141 6 0).toNatClampNeg))) →
                  (¬ (z141 6 0) < 0) ∧
                  (((z141 6 0).toNatClampNeg) < 12) ∧
                  (¬ (z141 6 0) < 0) ∧
                  (Dtells 3 ((z141 6 0).toNatClampNeg) (z141 11 ((z141 6 0).toNatClampNeg)) z141) ∧
                  let z174 := Ftells 3 ((z141 6 0).toNatClampNeg) (z141 11 ((z141 6 0).toNatClampNeg)) z141
                  True) ∧
                (¬ (0 ≤ (z141 11 ((z141 6 0).toNatClampNeg))) →
                  (¬ (z141 6 0) < 0) ∧
                  (Dtells 3 ((z141 6 0).toNatClampNeg) (nI (0)) z141) ∧
                  let z177 := Ftells 3 ((z141 6 0).toNatClampNeg) (nI (0)) z141
                  True)) ∧
              ((z141 6 1) = 32 →
                (((z141 0 43) = 0) →
                  True) ∧
                (¬ ((z141 0 43) = 0) →
                  (Ddone  z141) ∧
                  let z179 := Fdone  z141
                  True)) ∧
              ((∀ c ∈ ([(8, 152), (9, 158), (10, 174), (11, 180), (12, 230), (32, 256)] : List (Int32 × Nat)), ¬ (z141 6 1) = c.1) →
                True))) ∧
          (¬ ((Ffield 3 a1 1 m) = 0) →
            Dprocesses_11 n (a1 + 1) m))))
set_option maxRecDepth 100000 in
set_option maxHeartbeats 4000000 in
theorem w_processes_11 {tt : Prop} : ∀ (n : Nat) (a1 : Nat) (m : mD) (hD : Dprocesses_11 n a1 m), mV mX11_processes 6 tt (mQv (Fprocesses_11 n a1 m)) 11 [some (.ref (0)), some (.int (nI (a1))), none, none] [] m := by
  intro n
  induction n with
  | zero => intros; rename_i hD; exact hD.elim
  | succ n ih =>
    intro a1 m hD
    refine ab_aload_n (pc := 11) dX11_processes_11 rfl rfl ?_
    refine mo_gi (pc := 12) dX11_processes_12 fl_X11_225 rfl ?_
    refine ab_if_eq (pc := 15) (tgt := 55) dX11_processes_15 (by decide) (fun c_15 => ?_) (fun c_15 => ?_)
    · replace hD := hD.1 c_15
      refine ab_iload_n (pc := 55) dX11_processes_55 rfl rfl ?_
      refine ab_aload_n (pc := 56) dX11_processes_56 rfl rfl ?_
      refine mo_gr (pc := 57) dX11_processes_57 fl_X11_38 rfl rfl ?_
      refine ab_iconst (pc := 60) (v := nI 3) dX11_processes_60 (by decide) ?_
      refine mo_ild (pc := 61) dX11_processes_61 (by decide) rfl (by decide) (by decide) ?_
      obtain ⟨o3, hD⟩ := hD
      refine ab_nat1 (ab_nat o3) ?_
      obtain ⟨o4, hD⟩ := hD
      obtain ⟨o5, hD⟩ := hD
      refine ab_icmp_neN (pc := 62) (tgt := 66) dX11_processes_62 (by decide) o4 o5 (fun c_62 => ?_) (fun c_62 => ?_)
      · replace hD := hD.2 c_62
        refine ab_aload_n (pc := 66) dX11_processes_66 rfl rfl ?_
        refine ab_iconst (pc := 67) (v := nI 3) dX11_processes_67 (by decide) ?_
        refine ab_iload_n (pc := 68) dX11_processes_68 rfl rfl ?_
        obtain ⟨o6, hD⟩ := hD
        refine mo_invv (N := mX11_takeOut) (pc := 69) (d' := 1) (av := [_, _]) dX11_processes_69 ml_X11_143 fv_X11_takeOut (Nat.le_of_ble_eq_true rfl) (by decide) (c_takeOut _ _ _ o6) ?_
        refine ab_aload_n (pc := 72) dX11_processes_72 rfl rfl ?_
        refine mo_gr (pc := 73) dX11_processes_73 fl_X11_61 rfl rfl ?_
        refine ab_iconst (pc := 76) (v := nI 0) dX11_processes_76 (by decide) ?_
        refine mo_ild (pc := 77) dX11_processes_77 (by decide) rfl (by decide) (by decide) ?_
        refine ab_istore_n (pc := 78) dX11_processes_78 rfl (Nat.le_of_ble_eq_true rfl) rfl ?_
        refine ab_aload_n (pc := 79) dX11_processes_79 rfl rfl ?_
        refine mo_gr (pc := 80) dX11_processes_80 fl_X11_61 rfl rfl ?_
        refine ab_iconst (pc := 83) (v := nI 2) dX11_processes_83 (by decide) ?_
        refine mo_ild (pc := 84) dX11_processes_84 (by decide) rfl (by decide) (by decide) ?_
        refine ab_istore_n (pc := 85) dX11_processes_85 rfl (Nat.le_of_ble_eq_true rfl) rfl ?_
        refine ab_aload_n (pc := 86) dX11_processes_86 rfl rfl ?_
        refine mo_gr (pc := 87) dX11_processes_87 fl_X11_61 rfl rfl ?_
        refine ab_iconst (pc := 90) (v := nI 1) dX11_processes_90 (by decide) ?_
        refine mo_ild (pc := 91) dX11_processes_91 (by decide) rfl (by decide) (by decide) ?_
        refine ab_lsw (pc := 92) [(8, 152), (9, 158), (10, 174), (11, 180), (12, 230), (32, 256)] 268 dX11_processes_92 (by decide +kernel) (by decide +kernel) (ab_c1 (fun c_92 => ?_) (ab_c1 (fun c_92 => ?_) (ab_c1 (fun c_92 => ?_) (ab_c1 (fun c_92 => ?_) (ab_c1 (fun c_92 => ?_) (ab_c1 (fun c_92 => ?_) (ab_c0))))))) (fun c_92 => ?_)
        · replace hD := hD.1 c_92
          refine ab_aload_n (pc := 152) dX11_processes_152 rfl rfl ?_
          refine ab_iload_n (pc := 153) dX11_processes_153 rfl rfl ?_
          obtain ⟨o8, hD⟩ := hD
          refine ab_stk1 (congrArg Value.int (ab_nat o8)) ?_
          obtain ⟨o9, hD⟩ := hD
          refine mo_invv (N := mX11_forks) (pc := 154) (d' := 5) (av := [_]) dX11_processes_154 ml_X11_228 fv_X11_forks (Nat.le_of_ble_eq_true rfl) (by decide) (c_forks _ _ o9) ?_
          refine mo_vr (pc := 157) dX11_processes_157 rfl ?_
          first | (rw [Fprocesses_11]; (try dsimp only); rw [if_pos c_15, if_neg c_62, if_pos c_92]; done) | (rw [Fprocesses_11]; (try dsimp only); rw [if_pos c_15, if_neg c_62, if_pos c_92]; rfl)
        · replace hD := hD.2.1 c_92
          refine ab_aload_n (pc := 158) dX11_processes_158 rfl rfl ?_
          refine ab_iload_n (pc := 159) dX11_processes_159 rfl rfl ?_
          refine ab_iload_n (pc := 160) dX11_processes_160 rfl rfl ?_
          refine ab_iload_n (pc := 161) dX11_processes_161 rfl rfl ?_
          refine ab_sipush (pc := 162) (v := nI 256) dX11_processes_162 (by decide) ?_
          obtain ⟨o11, hD⟩ := hD
          refine mo_invs (N := mJ9_floorMod_7cf53) (pc := 165) (d' := 0) (av := [_, _]) dX11_processes_165 ml_X11_231 fs_J9_floorMod_7cf53 (Nat.le_of_ble_eq_true rfl) (by decide) (c_floorMod_7cf53 _ _ _ o11) ?_
          refine ab_bipush (pc := 168) (v := nI 9) dX11_processes_168 (by decide) ?_
          obtain ⟨o12, hD⟩ := hD
          refine ab_stk4 rfl rfl (congrArg Value.int (ab_nat o12)) rfl ?_
          obtain ⟨o13, hD⟩ := hD
          refine mo_invv (N := mX11_ends) (pc := 170) (d' := 4) (av := [_, _, _, _]) dX11_processes_170 ml_X11_236 fv_X11_ends (Nat.le_of_ble_eq_true rfl) (by decide) (c_ends _ _ _ _ _ o13) ?_
          refine mo_vr (pc := 173) dX11_processes_173 rfl ?_
          first | (rw [Fprocesses_11]; (try dsimp only); rw [if_pos c_15, if_neg c_62, if_neg (fun h => absurd (c_92.symm.trans h) (by decide)), if_pos c_92]; done) | (rw [Fprocesses_11]; (try dsimp only); rw [if_pos c_15, if_neg c_62, if_neg (fun h => absurd (c_92.symm.trans h) (by decide)), if_pos c_92]; rfl)
        · replace hD := hD.2.2.1 c_92
          refine ab_aload_n (pc := 174) dX11_processes_174 rfl rfl ?_
          refine ab_iload_n (pc := 175) dX11_processes_175 rfl rfl ?_
          obtain ⟨o15, hD⟩ := hD
          refine ab_stk1 (congrArg Value.int (ab_nat o15)) ?_
          obtain ⟨o16, hD⟩ := hD
          refine mo_invv (N := mX11_waitsFor) (pc := 176) (d' := 5) (av := [_]) dX11_processes_176 ml_X11_239 fv_X11_waitsFor (Nat.le_of_ble_eq_true rfl) (by decide) (c_waitsFor _ _ o16) ?_
          refine mo_vr (pc := 179) dX11_processes_179 rfl ?_
          first | (rw [Fprocesses_11]; (try dsimp only); rw [if_pos c_15, if_neg c_62, if_neg (fun h => absurd (c_92.symm.trans h) (by decide)), if_neg (fun h => absurd (c_92.symm.trans h) (by decide)), if_pos c_92]; done) | (rw [Fprocesses_11]; (try dsimp only); rw [if_pos c_15, if_neg c_62, if_neg (fun h => absurd (c_92.symm.trans h) (by decide)), if_neg (fun h => absurd (c_92.symm.trans h) (by decide)), if_pos c_92]; rfl)
        · replace hD := hD.2.2.2.1 c_92
          refine ab_iload_n (pc := 180) dX11_processes_180 rfl rfl ?_
          refine mo_invs (N := mX11_isUser) (pc := 181) (d' := 0) (av := [_]) dX11_processes_181 ml_X11_11 fs_X11_isUser (Nat.le_of_ble_eq_true rfl) (by decide) (c_isUser _ _ trivial) ?_
          refine ab_if_eq (pc := 184) (tgt := 221) dX11_processes_184 (by decide) (fun c_184 => ?_) (fun c_184 => ?_)
          · replace hD := hD.1 c_184
            refine ab_aload_n (pc := 221) dX11_processes_221 rfl rfl ?_
            refine ab_iconst (pc := 222) (v := nI 3) dX11_processes_222 (by decide) ?_
            refine ab_iload_n (pc := 223) dX11_processes_223 rfl rfl ?_
            refine ab_bipush (pc := 224) (v := -11) dX11_processes_224 (by decide) ?_
            obtain ⟨o18, hD⟩ := hD
            refine ab_stk3 rfl (congrArg Value.int (ab_nat o18)) rfl ?_
            obtain ⟨o19, hD⟩ := hD
            refine mo_invv (N := mX11_tells) (pc := 226) (d' := 4) (av := [_, _, _]) dX11_processes_226 ml_X11_196 fv_X11_tells (Nat.le_of_ble_eq_true rfl) (by decide) (c_tells _ _ _ _ o19) ?_
            refine mo_vr (pc := 229) dX11_processes_229 rfl ?_
            first | (rw [Fprocesses_11]; (try dsimp only); rw [if_pos c_15, if_neg c_62, if_neg (fun h => absurd (c_92.symm.trans h) (by decide)), if_neg (fun h => absurd (c_92.symm.trans h) (by decide)), if_neg (fun h => absurd (c_92.symm.trans h) (by decide)), if_pos c_92, if_pos c_184]; done) | (rw [Fprocesses_11]; (try dsimp only); rw [if_pos c_15, if_neg c_62, if_neg (fun h => absurd (c_92.symm.trans h) (by decide)), if_neg (fun h => absurd (c_92.symm.trans h) (by decide)), if_neg (fun h => absurd (c_92.symm.trans h) (by decide)), if_pos c_92, if_pos c_184]; rfl)
          · replace hD := hD.2 c_184
            refine ab_aload_n (pc := 187) dX11_processes_187 rfl rfl ?_
            refine mo_gr (pc := 188) dX11_processes_188 fl_X11_83 rfl rfl ?_
            refine ab_iload_n (pc := 191) dX11_processes_191 rfl rfl ?_
            obtain ⟨o21, hD⟩ := hD
            refine ab_nat1 (ab_nat o21) ?_
            obtain ⟨o22, hD⟩ := hD
            refine mo_ild (pc := 192) dX11_processes_192 (by decide) rfl o22 (by decide) ?_
            refine ab_iload_n (pc := 193) dX11_processes_193 rfl rfl ?_
            refine ab_icmp_ne (pc := 194) (tgt := 221) dX11_processes_194 (by decide) (fun c_194 => ?_) (fun c_194 => ?_)
            · replace hD := hD.2 c_194
              refine ab_aload_n (pc := 221) dX11_processes_221 rfl rfl ?_
              refine ab_iconst (pc := 222) (v := nI 3) dX11_processes_222 (by decide) ?_
              refine ab_iload_n (pc := 223) dX11_processes_223 rfl rfl ?_
              refine ab_bipush (pc := 224) (v := -11) dX11_processes_224 (by decide) ?_
              obtain ⟨o23, hD⟩ := hD
              refine ab_stk3 rfl (congrArg Value.int (ab_nat o23)) rfl ?_
              obtain ⟨o24, hD⟩ := hD
              refine mo_invv (N := mX11_tells) (pc := 226) (d' := 4) (av := [_, _, _]) dX11_processes_226 ml_X11_196 fv_X11_tells (Nat.le_of_ble_eq_true rfl) (by decide) (c_tells _ _ _ _ o24) ?_
              refine mo_vr (pc := 229) dX11_processes_229 rfl ?_
              first | (rw [Fprocesses_11]; (try dsimp only); rw [if_pos c_15, if_neg c_62, if_neg (fun h => absurd (c_92.symm.trans h) (by decide)), if_neg (fun h => absurd (c_92.symm.trans h) (by decide)), if_neg (fun h => absurd (c_92.symm.trans h) (by decide)), if_pos c_92, if_neg c_184, if_neg c_194]; done) | (rw [Fprocesses_11]; (try dsimp only); rw [if_pos c_15, if_neg c_62, if_neg (fun h => absurd (c_92.symm.trans h) (by decide)), if_neg (fun h => absurd (c_92.symm.trans h) (by decide)), if_neg (fun h => absurd (c_92.symm.trans h) (by decide)), if_pos c_92, if_neg c_184, if_neg c_194]; rfl)
            · replace hD := hD.1 c_194
              refine ab_aload_n (pc := 197) dX11_processes_197 rfl rfl ?_
              refine mo_gr (pc := 198) dX11_processes_198 fl_X11_19 rfl rfl ?_
              refine ab_iload_n (pc := 201) dX11_processes_201 rfl rfl ?_
              obtain ⟨o26, hD⟩ := hD
              refine ab_nat1 (ab_nat o26) ?_
              obtain ⟨o27, hD⟩ := hD
              refine mo_ild (pc := 202) dX11_processes_202 (by decide) rfl o27 (by decide) ?_
              refine ab_iconst (pc := 203) (v := nI 1) dX11_processes_203 (by decide) ?_
              refine ab_icmp_ne (pc := 204) (tgt := 221) dX11_processes_204 (by decide) (fun c_204 => ?_) (fun c_204 => ?_)
              · replace hD := hD.2 c_204
                refine ab_aload_n (pc := 221) dX11_processes_221 rfl rfl ?_
                refine ab_iconst (pc := 222) (v := nI 3) dX11_processes_222 (by decide) ?_
                refine ab_iload_n (pc := 223) dX11_processes_223 rfl rfl ?_
                refine ab_bipush (pc := 224) (v := -11) dX11_processes_224 (by decide) ?_
                obtain ⟨o28, hD⟩ := hD
                refine ab_stk3 rfl (congrArg Value.int (ab_nat o28)) rfl ?_
                obtain ⟨o29, hD⟩ := hD
                refine mo_invv (N := mX11_tells) (pc := 226) (d' := 4) (av := [_, _, _]) dX11_processes_226 ml_X11_196 fv_X11_tells (Nat.le_of_ble_eq_true rfl) (by decide) (c_tells _ _ _ _ o29) ?_
                refine mo_vr (pc := 229) dX11_processes_229 rfl ?_
                first | (rw [Fprocesses_11]; (try dsimp only); rw [if_pos c_15, if_neg c_62, if_neg (fun h => absurd (c_92.symm.trans h) (by decide)), if_neg (fun h => absurd (c_92.symm.trans h) (by decide)), if_neg (fun h => absurd (c_92.symm.trans h) (by decide)), if_pos c_92, if_neg c_184, if_pos c_194, if_neg c_204]; done) | (rw [Fprocesses_11]; (try dsimp only); rw [if_pos c_15, if_neg c_62, if_neg (fun h => absurd (c_92.symm.trans h) (by decide)), if_neg (fun h => absurd (c_92.symm.trans h) (by decide)), if_neg (fun h => absurd (c_92.symm.trans h) (by decide)), if_pos c_92, if_neg c_184, if_pos c_194, if_neg c_204]; rfl)
              · replace hD := hD.1 c_204
                refine ab_aload_n (pc := 207) dX11_processes_207 rfl rfl ?_
                refine ab_iload_n (pc := 208) dX11_processes_208 rfl rfl ?_
                refine ab_iload_n (pc := 209) dX11_processes_209 rfl rfl ?_
                refine ab_sipush (pc := 210) (v := nI 255) dX11_processes_210 (by decide) ?_
                refine ab_bipush (pc := 213) (v := nI 11) dX11_processes_213 (by decide) ?_
                obtain ⟨o31, hD⟩ := hD
                refine ab_stk4 rfl rfl (congrArg Value.int (ab_nat o31)) rfl ?_
                obtain ⟨o32, hD⟩ := hD
                refine mo_invv (N := mX11_ends) (pc := 215) (d' := 4) (av := [_, _, _, _]) dX11_processes_215 ml_X11_236 fv_X11_ends (Nat.le_of_ble_eq_true rfl) (by decide) (c_ends _ _ _ _ _ o32) ?_
                refine ab_goto (pc := 218) (tgt := 229) dX11_processes_218 (by decide) ?_
                refine mo_vr (pc := 229) dX11_processes_229 rfl ?_
                first | (rw [Fprocesses_11]; (try dsimp only); rw [if_pos c_15, if_neg c_62, if_neg (fun h => absurd (c_92.symm.trans h) (by decide)), if_neg (fun h => absurd (c_92.symm.trans h) (by decide)), if_neg (fun h => absurd (c_92.symm.trans h) (by decide)), if_pos c_92, if_neg c_184, if_pos c_194, if_pos c_204]; done) | (rw [Fprocesses_11]; (try dsimp only); rw [if_pos c_15, if_neg c_62, if_neg (fun h => absurd (c_92.symm.trans h) (by decide)), if_neg (fun h => absurd (c_92.symm.trans h) (by decide)), if_neg (fun h => absurd (c_92.symm.trans h) (by decide)), if_pos c_92, if_neg c_184, if_pos c_194, if_pos c_204]; rfl)
        · replace hD := hD.2.2.2.2.1 c_92
          refine ab_aload_n (pc := 230) dX11_processes_230 rfl rfl ?_
          refine ab_iconst (pc := 231) (v := nI 3) dX11_processes_231 (by decide) ?_
          refine ab_iload_n (pc := 232) dX11_processes_232 rfl rfl ?_
          refine ab_aload_n (pc := 233) dX11_processes_233 rfl rfl ?_
          refine mo_gr (pc := 234) dX11_processes_234 fl_X11_83 rfl rfl ?_
          refine ab_iload_n (pc := 237) dX11_processes_237 rfl rfl ?_
          obtain ⟨o34, hD⟩ := hD
          refine ab_nat1 (ab_nat o34) ?_
          obtain ⟨o35, hD⟩ := hD
          refine mo_ild (pc := 238) dX11_processes_238 (by decide) rfl o35 (by decide) ?_
          refine ab_if_ge (pc := 239) (tgt := 246) dX11_processes_239 (by decide) (fun c_239 => ?_) (fun c_239 => ?_)
          · replace hD := hD.1 c_239
            refine ab_aload_n (pc := 246) dX11_processes_246 rfl rfl ?_
            refine mo_gr (pc := 247) dX11_processes_247 fl_X11_83 rfl rfl ?_
            refine ab_iload_n (pc := 250) dX11_processes_250 rfl rfl ?_
            obtain ⟨o36, hD⟩ := hD
            refine ab_nat1 (ab_nat o36) ?_
            obtain ⟨o37, hD⟩ := hD
            refine mo_ild (pc := 251) dX11_processes_251 (by decide) rfl o37 (by decide) ?_
            obtain ⟨o38, hD⟩ := hD
            refine ab_stk3 rfl (congrArg Value.int (ab_nat o38)) rfl ?_
            obtain ⟨o39, hD⟩ := hD
            refine mo_invv (N := mX11_tells) (pc := 252) (d' := 4) (av := [_, _, _]) dX11_processes_252 ml_X11_196 fv_X11_tells (Nat.le_of_ble_eq_true rfl) (by decide) (c_tells _ _ _ _ o39) ?_
            refine mo_vr (pc := 255) dX11_processes_255 rfl ?_
            first | (rw [Fprocesses_11]; (try dsimp only); rw [if_pos c_15, if_neg c_62, if_neg (fun h => absurd (c_92.symm.trans h) (by decide)), if_neg (fun h => absurd (c_92.symm.trans h) (by decide)), if_neg (fun h => absurd (c_92.symm.trans h) (by decide)), if_neg (fun h => absurd (c_92.symm.trans h) (by decide)), if_pos c_92, if_pos c_239]; done) | (rw [Fprocesses_11]; (try dsimp only); rw [if_pos c_15, if_neg c_62, if_neg (fun h => absurd (c_92.symm.trans h) (by decide)), if_neg (fun h => absurd (c_92.symm.trans h) (by decide)), if_neg (fun h => absurd (c_92.symm.trans h) (by decide)), if_neg (fun h => absurd (c_92.symm.trans h) (by decide)), if_pos c_92, if_pos c_239]; rfl)
          · replace hD := hD.2 c_239
            refine ab_iconst (pc := 242) (v := nI 0) dX11_processes_242 (by decide) ?_
            refine ab_goto (pc := 243) (tgt := 252) dX11_processes_243 (by decide) ?_
            obtain ⟨o41, hD⟩ := hD
            refine ab_stk3 rfl (congrArg Value.int (ab_nat o41)) rfl ?_
            obtain ⟨o42, hD⟩ := hD
            refine mo_invv (N := mX11_tells) (pc := 252) (d' := 4) (av := [_, _, _]) dX11_processes_252 ml_X11_196 fv_X11_tells (Nat.le_of_ble_eq_true rfl) (by decide) (c_tells _ _ _ _ o42) ?_
            refine mo_vr (pc := 255) dX11_processes_255 rfl ?_
            first | (rw [Fprocesses_11]; (try dsimp only); rw [if_pos c_15, if_neg c_62, if_neg (fun h => absurd (c_92.symm.trans h) (by decide)), if_neg (fun h => absurd (c_92.symm.trans h) (by decide)), if_neg (fun h => absurd (c_92.symm.trans h) (by decide)), if_neg (fun h => absurd (c_92.symm.trans h) (by decide)), if_pos c_92, if_neg c_239]; done) | (rw [Fprocesses_11]; (try dsimp only); rw [if_pos c_15, if_neg c_62, if_neg (fun h => absurd (c_92.symm.trans h) (by decide)), if_neg (fun h => absurd (c_92.symm.trans h) (by decide)), if_neg (fun h => absurd (c_92.symm.trans h) (by decide)), if_neg (fun h => absurd (c_92.symm.trans h) (by decide)), if_pos c_92, if_neg c_239]; rfl)
        · replace hD := hD.2.2.2.2.2.1 c_92
          refine ab_aload_n (pc := 256) dX11_processes_256 rfl rfl ?_
          refine mo_gi (pc := 257) dX11_processes_257 fl_X11_225 rfl ?_
          refine ab_if_eq (pc := 260) (tgt := 267) dX11_processes_260 (by decide) (fun c_260 => ?_) (fun c_260 => ?_)
          · refine mo_vr (pc := 267) dX11_processes_267 rfl ?_
            first | (rw [Fprocesses_11]; (try dsimp only); rw [if_pos c_15, if_neg c_62, if_neg (fun h => absurd (c_92.symm.trans h) (by decide)), if_neg (fun h => absurd (c_92.symm.trans h) (by decide)), if_neg (fun h => absurd (c_92.symm.trans h) (by decide)), if_neg (fun h => absurd (c_92.symm.trans h) (by decide)), if_neg (fun h => absurd (c_92.symm.trans h) (by decide)), if_pos c_92, if_pos c_260]; done) | (rw [Fprocesses_11]; (try dsimp only); rw [if_pos c_15, if_neg c_62, if_neg (fun h => absurd (c_92.symm.trans h) (by decide)), if_neg (fun h => absurd (c_92.symm.trans h) (by decide)), if_neg (fun h => absurd (c_92.symm.trans h) (by decide)), if_neg (fun h => absurd (c_92.symm.trans h) (by decide)), if_neg (fun h => absurd (c_92.symm.trans h) (by decide)), if_pos c_92, if_pos c_260]; rfl)
          · replace hD := hD.2 c_260
            refine ab_aload_n (pc := 263) dX11_processes_263 rfl rfl ?_
            obtain ⟨o44, hD⟩ := hD
            refine mo_invv (N := mX11_done) (pc := 264) (d' := 5) (av := []) dX11_processes_264 ml_X11_242 fv_X11_done (Nat.le_of_ble_eq_true rfl) (by decide) (c_done  _ o44) ?_
            refine mo_vr (pc := 267) dX11_processes_267 rfl ?_
            first | (rw [Fprocesses_11]; (try dsimp only); rw [if_pos c_15, if_neg c_62, if_neg (fun h => absurd (c_92.symm.trans h) (by decide)), if_neg (fun h => absurd (c_92.symm.trans h) (by decide)), if_neg (fun h => absurd (c_92.symm.trans h) (by decide)), if_neg (fun h => absurd (c_92.symm.trans h) (by decide)), if_neg (fun h => absurd (c_92.symm.trans h) (by decide)), if_pos c_92, if_neg c_260]; done) | (rw [Fprocesses_11]; (try dsimp only); rw [if_pos c_15, if_neg c_62, if_neg (fun h => absurd (c_92.symm.trans h) (by decide)), if_neg (fun h => absurd (c_92.symm.trans h) (by decide)), if_neg (fun h => absurd (c_92.symm.trans h) (by decide)), if_neg (fun h => absurd (c_92.symm.trans h) (by decide)), if_neg (fun h => absurd (c_92.symm.trans h) (by decide)), if_pos c_92, if_neg c_260]; rfl)
        · refine mo_vr (pc := 268) dX11_processes_268 rfl ?_
          first | (rw [Fprocesses_11]; (try dsimp only); rw [if_pos c_15, if_neg c_62, if_neg (c_92 _ (List.mem_of_getElem? (i := 0) rfl)), if_neg (c_92 _ (List.mem_of_getElem? (i := 1) rfl)), if_neg (c_92 _ (List.mem_of_getElem? (i := 2) rfl)), if_neg (c_92 _ (List.mem_of_getElem? (i := 3) rfl)), if_neg (c_92 _ (List.mem_of_getElem? (i := 4) rfl)), if_neg (c_92 _ (List.mem_of_getElem? (i := 5) rfl))]; done) | (rw [Fprocesses_11]; (try dsimp only); rw [if_pos c_15, if_neg c_62, if_neg (c_92 _ (List.mem_of_getElem? (i := 0) rfl)), if_neg (c_92 _ (List.mem_of_getElem? (i := 1) rfl)), if_neg (c_92 _ (List.mem_of_getElem? (i := 2) rfl)), if_neg (c_92 _ (List.mem_of_getElem? (i := 3) rfl)), if_neg (c_92 _ (List.mem_of_getElem? (i := 4) rfl)), if_neg (c_92 _ (List.mem_of_getElem? (i := 5) rfl))]; rfl)
      · refine mo_vr (pc := 65) dX11_processes_65 rfl ?_
        first | (rw [Fprocesses_11]; (try dsimp only); rw [if_pos c_15, if_pos c_62]; done) | (rw [Fprocesses_11]; (try dsimp only); rw [if_pos c_15, if_pos c_62]; rfl)
    · replace hD := hD.2 c_15
      refine ab_iload_n (pc := 18) dX11_processes_18 rfl rfl ?_
      refine ab_aload_n (pc := 19) dX11_processes_19 rfl rfl ?_
      refine mo_gr (pc := 20) dX11_processes_20 fl_X11_38 rfl rfl ?_
      refine ab_iconst (pc := 23) (v := nI 3) dX11_processes_23 (by decide) ?_
      refine mo_ild (pc := 24) dX11_processes_24 (by decide) rfl (by decide) (by decide) ?_
      obtain ⟨o46, hD⟩ := hD
      refine ab_nat1 (ab_nat o46) ?_
      obtain ⟨o47, hD⟩ := hD
      obtain ⟨o48, hD⟩ := hD
      refine ab_icmp_geN (pc := 25) (tgt := 55) dX11_processes_25 (by decide) o47 o48 (fun c_25 => ?_) (fun c_25 => ?_)
      · replace hD := hD.1 c_25
        refine ab_iload_n (pc := 55) dX11_processes_55 rfl rfl ?_
        refine ab_aload_n (pc := 56) dX11_processes_56 rfl rfl ?_
        refine mo_gr (pc := 57) dX11_processes_57 fl_X11_38 rfl rfl ?_
        refine ab_iconst (pc := 60) (v := nI 3) dX11_processes_60 (by decide) ?_
        refine mo_ild (pc := 61) dX11_processes_61 (by decide) rfl (by decide) (by decide) ?_
        obtain ⟨o49, hD⟩ := hD
        refine ab_nat1 (ab_nat o49) ?_
        obtain ⟨o50, hD⟩ := hD
        obtain ⟨o51, hD⟩ := hD
        refine ab_icmp_neN (pc := 62) (tgt := 66) dX11_processes_62 (by decide) o50 o51 (fun c_62 => ?_) (fun c_62 => ?_)
        · replace hD := hD.2 c_62
          refine ab_aload_n (pc := 66) dX11_processes_66 rfl rfl ?_
          refine ab_iconst (pc := 67) (v := nI 3) dX11_processes_67 (by decide) ?_
          refine ab_iload_n (pc := 68) dX11_processes_68 rfl rfl ?_
          obtain ⟨o52, hD⟩ := hD
          refine mo_invv (N := mX11_takeOut) (pc := 69) (d' := 1) (av := [_, _]) dX11_processes_69 ml_X11_143 fv_X11_takeOut (Nat.le_of_ble_eq_true rfl) (by decide) (c_takeOut _ _ _ o52) ?_
          refine ab_aload_n (pc := 72) dX11_processes_72 rfl rfl ?_
          refine mo_gr (pc := 73) dX11_processes_73 fl_X11_61 rfl rfl ?_
          refine ab_iconst (pc := 76) (v := nI 0) dX11_processes_76 (by decide) ?_
          refine mo_ild (pc := 77) dX11_processes_77 (by decide) rfl (by decide) (by decide) ?_
          refine ab_istore_n (pc := 78) dX11_processes_78 rfl (Nat.le_of_ble_eq_true rfl) rfl ?_
          refine ab_aload_n (pc := 79) dX11_processes_79 rfl rfl ?_
          refine mo_gr (pc := 80) dX11_processes_80 fl_X11_61 rfl rfl ?_
          refine ab_iconst (pc := 83) (v := nI 2) dX11_processes_83 (by decide) ?_
          refine mo_ild (pc := 84) dX11_processes_84 (by decide) rfl (by decide) (by decide) ?_
          refine ab_istore_n (pc := 85) dX11_processes_85 rfl (Nat.le_of_ble_eq_true rfl) rfl ?_
          refine ab_aload_n (pc := 86) dX11_processes_86 rfl rfl ?_
          refine mo_gr (pc := 87) dX11_processes_87 fl_X11_61 rfl rfl ?_
          refine ab_iconst (pc := 90) (v := nI 1) dX11_processes_90 (by decide) ?_
          refine mo_ild (pc := 91) dX11_processes_91 (by decide) rfl (by decide) (by decide) ?_
          refine ab_lsw (pc := 92) [(8, 152), (9, 158), (10, 174), (11, 180), (12, 230), (32, 256)] 268 dX11_processes_92 (by decide +kernel) (by decide +kernel) (ab_c1 (fun c_92 => ?_) (ab_c1 (fun c_92 => ?_) (ab_c1 (fun c_92 => ?_) (ab_c1 (fun c_92 => ?_) (ab_c1 (fun c_92 => ?_) (ab_c1 (fun c_92 => ?_) (ab_c0))))))) (fun c_92 => ?_)
          · replace hD := hD.1 c_92
            refine ab_aload_n (pc := 152) dX11_processes_152 rfl rfl ?_
            refine ab_iload_n (pc := 153) dX11_processes_153 rfl rfl ?_
            obtain ⟨o54, hD⟩ := hD
            refine ab_stk1 (congrArg Value.int (ab_nat o54)) ?_
            obtain ⟨o55, hD⟩ := hD
            refine mo_invv (N := mX11_forks) (pc := 154) (d' := 5) (av := [_]) dX11_processes_154 ml_X11_228 fv_X11_forks (Nat.le_of_ble_eq_true rfl) (by decide) (c_forks _ _ o55) ?_
            refine mo_vr (pc := 157) dX11_processes_157 rfl ?_
            first | (rw [Fprocesses_11]; (try dsimp only); rw [if_neg c_15, if_pos c_25, if_neg c_62, if_pos c_92]; done) | (rw [Fprocesses_11]; (try dsimp only); rw [if_neg c_15, if_pos c_25, if_neg c_62, if_pos c_92]; rfl)
          · replace hD := hD.2.1 c_92
            refine ab_aload_n (pc := 158) dX11_processes_158 rfl rfl ?_
            refine ab_iload_n (pc := 159) dX11_processes_159 rfl rfl ?_
            refine ab_iload_n (pc := 160) dX11_processes_160 rfl rfl ?_
            refine ab_iload_n (pc := 161) dX11_processes_161 rfl rfl ?_
            refine ab_sipush (pc := 162) (v := nI 256) dX11_processes_162 (by decide) ?_
            obtain ⟨o57, hD⟩ := hD
            refine mo_invs (N := mJ9_floorMod_7cf53) (pc := 165) (d' := 0) (av := [_, _]) dX11_processes_165 ml_X11_231 fs_J9_floorMod_7cf53 (Nat.le_of_ble_eq_true rfl) (by decide) (c_floorMod_7cf53 _ _ _ o57) ?_
            refine ab_bipush (pc := 168) (v := nI 9) dX11_processes_168 (by decide) ?_
            obtain ⟨o58, hD⟩ := hD
            refine ab_stk4 rfl rfl (congrArg Value.int (ab_nat o58)) rfl ?_
            obtain ⟨o59, hD⟩ := hD
            refine mo_invv (N := mX11_ends) (pc := 170) (d' := 4) (av := [_, _, _, _]) dX11_processes_170 ml_X11_236 fv_X11_ends (Nat.le_of_ble_eq_true rfl) (by decide) (c_ends _ _ _ _ _ o59) ?_
            refine mo_vr (pc := 173) dX11_processes_173 rfl ?_
            first | (rw [Fprocesses_11]; (try dsimp only); rw [if_neg c_15, if_pos c_25, if_neg c_62, if_neg (fun h => absurd (c_92.symm.trans h) (by decide)), if_pos c_92]; done) | (rw [Fprocesses_11]; (try dsimp only); rw [if_neg c_15, if_pos c_25, if_neg c_62, if_neg (fun h => absurd (c_92.symm.trans h) (by decide)), if_pos c_92]; rfl)
          · replace hD := hD.2.2.1 c_92
            refine ab_aload_n (pc := 174) dX11_processes_174 rfl rfl ?_
            refine ab_iload_n (pc := 175) dX11_processes_175 rfl rfl ?_
            obtain ⟨o61, hD⟩ := hD
            refine ab_stk1 (congrArg Value.int (ab_nat o61)) ?_
            obtain ⟨o62, hD⟩ := hD
            refine mo_invv (N := mX11_waitsFor) (pc := 176) (d' := 5) (av := [_]) dX11_processes_176 ml_X11_239 fv_X11_waitsFor (Nat.le_of_ble_eq_true rfl) (by decide) (c_waitsFor _ _ o62) ?_
            refine mo_vr (pc := 179) dX11_processes_179 rfl ?_
            first | (rw [Fprocesses_11]; (try dsimp only); rw [if_neg c_15, if_pos c_25, if_neg c_62, if_neg (fun h => absurd (c_92.symm.trans h) (by decide)), if_neg (fun h => absurd (c_92.symm.trans h) (by decide)), if_pos c_92]; done) | (rw [Fprocesses_11]; (try dsimp only); rw [if_neg c_15, if_pos c_25, if_neg c_62, if_neg (fun h => absurd (c_92.symm.trans h) (by decide)), if_neg (fun h => absurd (c_92.symm.trans h) (by decide)), if_pos c_92]; rfl)
          · replace hD := hD.2.2.2.1 c_92
            refine ab_iload_n (pc := 180) dX11_processes_180 rfl rfl ?_
            refine mo_invs (N := mX11_isUser) (pc := 181) (d' := 0) (av := [_]) dX11_processes_181 ml_X11_11 fs_X11_isUser (Nat.le_of_ble_eq_true rfl) (by decide) (c_isUser _ _ trivial) ?_
            refine ab_if_eq (pc := 184) (tgt := 221) dX11_processes_184 (by decide) (fun c_184 => ?_) (fun c_184 => ?_)
            · replace hD := hD.1 c_184
              refine ab_aload_n (pc := 221) dX11_processes_221 rfl rfl ?_
              refine ab_iconst (pc := 222) (v := nI 3) dX11_processes_222 (by decide) ?_
              refine ab_iload_n (pc := 223) dX11_processes_223 rfl rfl ?_
              refine ab_bipush (pc := 224) (v := -11) dX11_processes_224 (by decide) ?_
              obtain ⟨o64, hD⟩ := hD
              refine ab_stk3 rfl (congrArg Value.int (ab_nat o64)) rfl ?_
              obtain ⟨o65, hD⟩ := hD
              refine mo_invv (N := mX11_tells) (pc := 226) (d' := 4) (av := [_, _, _]) dX11_processes_226 ml_X11_196 fv_X11_tells (Nat.le_of_ble_eq_true rfl) (by decide) (c_tells _ _ _ _ o65) ?_
              refine mo_vr (pc := 229) dX11_processes_229 rfl ?_
              first | (rw [Fprocesses_11]; (try dsimp only); rw [if_neg c_15, if_pos c_25, if_neg c_62, if_neg (fun h => absurd (c_92.symm.trans h) (by decide)), if_neg (fun h => absurd (c_92.symm.trans h) (by decide)), if_neg (fun h => absurd (c_92.symm.trans h) (by decide)), if_pos c_92, if_pos c_184]; done) | (rw [Fprocesses_11]; (try dsimp only); rw [if_neg c_15, if_pos c_25, if_neg c_62, if_neg (fun h => absurd (c_92.symm.trans h) (by decide)), if_neg (fun h => absurd (c_92.symm.trans h) (by decide)), if_neg (fun h => absurd (c_92.symm.trans h) (by decide)), if_pos c_92, if_pos c_184]; rfl)
            · replace hD := hD.2 c_184
              refine ab_aload_n (pc := 187) dX11_processes_187 rfl rfl ?_
              refine mo_gr (pc := 188) dX11_processes_188 fl_X11_83 rfl rfl ?_
              refine ab_iload_n (pc := 191) dX11_processes_191 rfl rfl ?_
              obtain ⟨o67, hD⟩ := hD
              refine ab_nat1 (ab_nat o67) ?_
              obtain ⟨o68, hD⟩ := hD
              refine mo_ild (pc := 192) dX11_processes_192 (by decide) rfl o68 (by decide) ?_
              refine ab_iload_n (pc := 193) dX11_processes_193 rfl rfl ?_
              refine ab_icmp_ne (pc := 194) (tgt := 221) dX11_processes_194 (by decide) (fun c_194 => ?_) (fun c_194 => ?_)
              · replace hD := hD.2 c_194
                refine ab_aload_n (pc := 221) dX11_processes_221 rfl rfl ?_
                refine ab_iconst (pc := 222) (v := nI 3) dX11_processes_222 (by decide) ?_
                refine ab_iload_n (pc := 223) dX11_processes_223 rfl rfl ?_
                refine ab_bipush (pc := 224) (v := -11) dX11_processes_224 (by decide) ?_
                obtain ⟨o69, hD⟩ := hD
                refine ab_stk3 rfl (congrArg Value.int (ab_nat o69)) rfl ?_
                obtain ⟨o70, hD⟩ := hD
                refine mo_invv (N := mX11_tells) (pc := 226) (d' := 4) (av := [_, _, _]) dX11_processes_226 ml_X11_196 fv_X11_tells (Nat.le_of_ble_eq_true rfl) (by decide) (c_tells _ _ _ _ o70) ?_
                refine mo_vr (pc := 229) dX11_processes_229 rfl ?_
                first | (rw [Fprocesses_11]; (try dsimp only); rw [if_neg c_15, if_pos c_25, if_neg c_62, if_neg (fun h => absurd (c_92.symm.trans h) (by decide)), if_neg (fun h => absurd (c_92.symm.trans h) (by decide)), if_neg (fun h => absurd (c_92.symm.trans h) (by decide)), if_pos c_92, if_neg c_184, if_neg c_194]; done) | (rw [Fprocesses_11]; (try dsimp only); rw [if_neg c_15, if_pos c_25, if_neg c_62, if_neg (fun h => absurd (c_92.symm.trans h) (by decide)), if_neg (fun h => absurd (c_92.symm.trans h) (by decide)), if_neg (fun h => absurd (c_92.symm.trans h) (by decide)), if_pos c_92, if_neg c_184, if_neg c_194]; rfl)
              · replace hD := hD.1 c_194
                refine ab_aload_n (pc := 197) dX11_processes_197 rfl rfl ?_
                refine mo_gr (pc := 198) dX11_processes_198 fl_X11_19 rfl rfl ?_
                refine ab_iload_n (pc := 201) dX11_processes_201 rfl rfl ?_
                obtain ⟨o72, hD⟩ := hD
                refine ab_nat1 (ab_nat o72) ?_
                obtain ⟨o73, hD⟩ := hD
                refine mo_ild (pc := 202) dX11_processes_202 (by decide) rfl o73 (by decide) ?_
                refine ab_iconst (pc := 203) (v := nI 1) dX11_processes_203 (by decide) ?_
                refine ab_icmp_ne (pc := 204) (tgt := 221) dX11_processes_204 (by decide) (fun c_204 => ?_) (fun c_204 => ?_)
                · replace hD := hD.2 c_204
                  refine ab_aload_n (pc := 221) dX11_processes_221 rfl rfl ?_
                  refine ab_iconst (pc := 222) (v := nI 3) dX11_processes_222 (by decide) ?_
                  refine ab_iload_n (pc := 223) dX11_processes_223 rfl rfl ?_
                  refine ab_bipush (pc := 224) (v := -11) dX11_processes_224 (by decide) ?_
                  obtain ⟨o74, hD⟩ := hD
                  refine ab_stk3 rfl (congrArg Value.int (ab_nat o74)) rfl ?_
                  obtain ⟨o75, hD⟩ := hD
                  refine mo_invv (N := mX11_tells) (pc := 226) (d' := 4) (av := [_, _, _]) dX11_processes_226 ml_X11_196 fv_X11_tells (Nat.le_of_ble_eq_true rfl) (by decide) (c_tells _ _ _ _ o75) ?_
                  refine mo_vr (pc := 229) dX11_processes_229 rfl ?_
                  first | (rw [Fprocesses_11]; (try dsimp only); rw [if_neg c_15, if_pos c_25, if_neg c_62, if_neg (fun h => absurd (c_92.symm.trans h) (by decide)), if_neg (fun h => absurd (c_92.symm.trans h) (by decide)), if_neg (fun h => absurd (c_92.symm.trans h) (by decide)), if_pos c_92, if_neg c_184, if_pos c_194, if_neg c_204]; done) | (rw [Fprocesses_11]; (try dsimp only); rw [if_neg c_15, if_pos c_25, if_neg c_62, if_neg (fun h => absurd (c_92.symm.trans h) (by decide)), if_neg (fun h => absurd (c_92.symm.trans h) (by decide)), if_neg (fun h => absurd (c_92.symm.trans h) (by decide)), if_pos c_92, if_neg c_184, if_pos c_194, if_neg c_204]; rfl)
                · replace hD := hD.1 c_204
                  refine ab_aload_n (pc := 207) dX11_processes_207 rfl rfl ?_
                  refine ab_iload_n (pc := 208) dX11_processes_208 rfl rfl ?_
                  refine ab_iload_n (pc := 209) dX11_processes_209 rfl rfl ?_
                  refine ab_sipush (pc := 210) (v := nI 255) dX11_processes_210 (by decide) ?_
                  refine ab_bipush (pc := 213) (v := nI 11) dX11_processes_213 (by decide) ?_
                  obtain ⟨o77, hD⟩ := hD
                  refine ab_stk4 rfl rfl (congrArg Value.int (ab_nat o77)) rfl ?_
                  obtain ⟨o78, hD⟩ := hD
                  refine mo_invv (N := mX11_ends) (pc := 215) (d' := 4) (av := [_, _, _, _]) dX11_processes_215 ml_X11_236 fv_X11_ends (Nat.le_of_ble_eq_true rfl) (by decide) (c_ends _ _ _ _ _ o78) ?_
                  refine ab_goto (pc := 218) (tgt := 229) dX11_processes_218 (by decide) ?_
                  refine mo_vr (pc := 229) dX11_processes_229 rfl ?_
                  first | (rw [Fprocesses_11]; (try dsimp only); rw [if_neg c_15, if_pos c_25, if_neg c_62, if_neg (fun h => absurd (c_92.symm.trans h) (by decide)), if_neg (fun h => absurd (c_92.symm.trans h) (by decide)), if_neg (fun h => absurd (c_92.symm.trans h) (by decide)), if_pos c_92, if_neg c_184, if_pos c_194, if_pos c_204]; done) | (rw [Fprocesses_11]; (try dsimp only); rw [if_neg c_15, if_pos c_25, if_neg c_62, if_neg (fun h => absurd (c_92.symm.trans h) (by decide)), if_neg (fun h => absurd (c_92.symm.trans h) (by decide)), if_neg (fun h => absurd (c_92.symm.trans h) (by decide)), if_pos c_92, if_neg c_184, if_pos c_194, if_pos c_204]; rfl)
          · replace hD := hD.2.2.2.2.1 c_92
            refine ab_aload_n (pc := 230) dX11_processes_230 rfl rfl ?_
            refine ab_iconst (pc := 231) (v := nI 3) dX11_processes_231 (by decide) ?_
            refine ab_iload_n (pc := 232) dX11_processes_232 rfl rfl ?_
            refine ab_aload_n (pc := 233) dX11_processes_233 rfl rfl ?_
            refine mo_gr (pc := 234) dX11_processes_234 fl_X11_83 rfl rfl ?_
            refine ab_iload_n (pc := 237) dX11_processes_237 rfl rfl ?_
            obtain ⟨o80, hD⟩ := hD
            refine ab_nat1 (ab_nat o80) ?_
            obtain ⟨o81, hD⟩ := hD
            refine mo_ild (pc := 238) dX11_processes_238 (by decide) rfl o81 (by decide) ?_
            refine ab_if_ge (pc := 239) (tgt := 246) dX11_processes_239 (by decide) (fun c_239 => ?_) (fun c_239 => ?_)
            · replace hD := hD.1 c_239
              refine ab_aload_n (pc := 246) dX11_processes_246 rfl rfl ?_
              refine mo_gr (pc := 247) dX11_processes_247 fl_X11_83 rfl rfl ?_
              refine ab_iload_n (pc := 250) dX11_processes_250 rfl rfl ?_
              obtain ⟨o82, hD⟩ := hD
              refine ab_nat1 (ab_nat o82) ?_
              obtain ⟨o83, hD⟩ := hD
              refine mo_ild (pc := 251) dX11_processes_251 (by decide) rfl o83 (by decide) ?_
              obtain ⟨o84, hD⟩ := hD
              refine ab_stk3 rfl (congrArg Value.int (ab_nat o84)) rfl ?_
              obtain ⟨o85, hD⟩ := hD
              refine mo_invv (N := mX11_tells) (pc := 252) (d' := 4) (av := [_, _, _]) dX11_processes_252 ml_X11_196 fv_X11_tells (Nat.le_of_ble_eq_true rfl) (by decide) (c_tells _ _ _ _ o85) ?_
              refine mo_vr (pc := 255) dX11_processes_255 rfl ?_
              first | (rw [Fprocesses_11]; (try dsimp only); rw [if_neg c_15, if_pos c_25, if_neg c_62, if_neg (fun h => absurd (c_92.symm.trans h) (by decide)), if_neg (fun h => absurd (c_92.symm.trans h) (by decide)), if_neg (fun h => absurd (c_92.symm.trans h) (by decide)), if_neg (fun h => absurd (c_92.symm.trans h) (by decide)), if_pos c_92, if_pos c_239]; done) | (rw [Fprocesses_11]; (try dsimp only); rw [if_neg c_15, if_pos c_25, if_neg c_62, if_neg (fun h => absurd (c_92.symm.trans h) (by decide)), if_neg (fun h => absurd (c_92.symm.trans h) (by decide)), if_neg (fun h => absurd (c_92.symm.trans h) (by decide)), if_neg (fun h => absurd (c_92.symm.trans h) (by decide)), if_pos c_92, if_pos c_239]; rfl)
            · replace hD := hD.2 c_239
              refine ab_iconst (pc := 242) (v := nI 0) dX11_processes_242 (by decide) ?_
              refine ab_goto (pc := 243) (tgt := 252) dX11_processes_243 (by decide) ?_
              obtain ⟨o87, hD⟩ := hD
              refine ab_stk3 rfl (congrArg Value.int (ab_nat o87)) rfl ?_
              obtain ⟨o88, hD⟩ := hD
              refine mo_invv (N := mX11_tells) (pc := 252) (d' := 4) (av := [_, _, _]) dX11_processes_252 ml_X11_196 fv_X11_tells (Nat.le_of_ble_eq_true rfl) (by decide) (c_tells _ _ _ _ o88) ?_
              refine mo_vr (pc := 255) dX11_processes_255 rfl ?_
              first | (rw [Fprocesses_11]; (try dsimp only); rw [if_neg c_15, if_pos c_25, if_neg c_62, if_neg (fun h => absurd (c_92.symm.trans h) (by decide)), if_neg (fun h => absurd (c_92.symm.trans h) (by decide)), if_neg (fun h => absurd (c_92.symm.trans h) (by decide)), if_neg (fun h => absurd (c_92.symm.trans h) (by decide)), if_pos c_92, if_neg c_239]; done) | (rw [Fprocesses_11]; (try dsimp only); rw [if_neg c_15, if_pos c_25, if_neg c_62, if_neg (fun h => absurd (c_92.symm.trans h) (by decide)), if_neg (fun h => absurd (c_92.symm.trans h) (by decide)), if_neg (fun h => absurd (c_92.symm.trans h) (by decide)), if_neg (fun h => absurd (c_92.symm.trans h) (by decide)), if_pos c_92, if_neg c_239]; rfl)
          · replace hD := hD.2.2.2.2.2.1 c_92
            refine ab_aload_n (pc := 256) dX11_processes_256 rfl rfl ?_
            refine mo_gi (pc := 257) dX11_processes_257 fl_X11_225 rfl ?_
            refine ab_if_eq (pc := 260) (tgt := 267) dX11_processes_260 (by decide) (fun c_260 => ?_) (fun c_260 => ?_)
            · refine mo_vr (pc := 267) dX11_processes_267 rfl ?_
              first | (rw [Fprocesses_11]; (try dsimp only); rw [if_neg c_15, if_pos c_25, if_neg c_62, if_neg (fun h => absurd (c_92.symm.trans h) (by decide)), if_neg (fun h => absurd (c_92.symm.trans h) (by decide)), if_neg (fun h => absurd (c_92.symm.trans h) (by decide)), if_neg (fun h => absurd (c_92.symm.trans h) (by decide)), if_neg (fun h => absurd (c_92.symm.trans h) (by decide)), if_pos c_92, if_pos c_260]; done) | (rw [Fprocesses_11]; (try dsimp only); rw [if_neg c_15, if_pos c_25, if_neg c_62, if_neg (fun h => absurd (c_92.symm.trans h) (by decide)), if_neg (fun h => absurd (c_92.symm.trans h) (by decide)), if_neg (fun h => absurd (c_92.symm.trans h) (by decide)), if_neg (fun h => absurd (c_92.symm.trans h) (by decide)), if_neg (fun h => absurd (c_92.symm.trans h) (by decide)), if_pos c_92, if_pos c_260]; rfl)
            · replace hD := hD.2 c_260
              refine ab_aload_n (pc := 263) dX11_processes_263 rfl rfl ?_
              obtain ⟨o90, hD⟩ := hD
              refine mo_invv (N := mX11_done) (pc := 264) (d' := 5) (av := []) dX11_processes_264 ml_X11_242 fv_X11_done (Nat.le_of_ble_eq_true rfl) (by decide) (c_done  _ o90) ?_
              refine mo_vr (pc := 267) dX11_processes_267 rfl ?_
              first | (rw [Fprocesses_11]; (try dsimp only); rw [if_neg c_15, if_pos c_25, if_neg c_62, if_neg (fun h => absurd (c_92.symm.trans h) (by decide)), if_neg (fun h => absurd (c_92.symm.trans h) (by decide)), if_neg (fun h => absurd (c_92.symm.trans h) (by decide)), if_neg (fun h => absurd (c_92.symm.trans h) (by decide)), if_neg (fun h => absurd (c_92.symm.trans h) (by decide)), if_pos c_92, if_neg c_260]; done) | (rw [Fprocesses_11]; (try dsimp only); rw [if_neg c_15, if_pos c_25, if_neg c_62, if_neg (fun h => absurd (c_92.symm.trans h) (by decide)), if_neg (fun h => absurd (c_92.symm.trans h) (by decide)), if_neg (fun h => absurd (c_92.symm.trans h) (by decide)), if_neg (fun h => absurd (c_92.symm.trans h) (by decide)), if_neg (fun h => absurd (c_92.symm.trans h) (by decide)), if_pos c_92, if_neg c_260]; rfl)
          · refine mo_vr (pc := 268) dX11_processes_268 rfl ?_
            first | (rw [Fprocesses_11]; (try dsimp only); rw [if_neg c_15, if_pos c_25, if_neg c_62, if_neg (c_92 _ (List.mem_of_getElem? (i := 0) rfl)), if_neg (c_92 _ (List.mem_of_getElem? (i := 1) rfl)), if_neg (c_92 _ (List.mem_of_getElem? (i := 2) rfl)), if_neg (c_92 _ (List.mem_of_getElem? (i := 3) rfl)), if_neg (c_92 _ (List.mem_of_getElem? (i := 4) rfl)), if_neg (c_92 _ (List.mem_of_getElem? (i := 5) rfl))]; done) | (rw [Fprocesses_11]; (try dsimp only); rw [if_neg c_15, if_pos c_25, if_neg c_62, if_neg (c_92 _ (List.mem_of_getElem? (i := 0) rfl)), if_neg (c_92 _ (List.mem_of_getElem? (i := 1) rfl)), if_neg (c_92 _ (List.mem_of_getElem? (i := 2) rfl)), if_neg (c_92 _ (List.mem_of_getElem? (i := 3) rfl)), if_neg (c_92 _ (List.mem_of_getElem? (i := 4) rfl)), if_neg (c_92 _ (List.mem_of_getElem? (i := 5) rfl))]; rfl)
        · refine mo_vr (pc := 65) dX11_processes_65 rfl ?_
          first | (rw [Fprocesses_11]; (try dsimp only); rw [if_neg c_15, if_pos c_25, if_pos c_62]; done) | (rw [Fprocesses_11]; (try dsimp only); rw [if_neg c_15, if_pos c_25, if_pos c_62]; rfl)
      · replace hD := hD.2 c_25
        refine ab_aload_n (pc := 28) dX11_processes_28 rfl rfl ?_
        refine ab_iconst (pc := 29) (v := nI 3) dX11_processes_29 (by decide) ?_
        refine ab_iload_n (pc := 30) dX11_processes_30 rfl rfl ?_
        refine ab_iconst (pc := 31) (v := nI 0) dX11_processes_31 (by decide) ?_
        obtain ⟨o92, hD⟩ := hD
        refine mo_invr (N := mX11_field) (pc := 32) (d' := 0) (av := [_, _, _]) dX11_processes_32 ml_X11_156 fv_X11_field (Nat.le_of_ble_eq_true rfl) (by decide) (c_field _ _ _ _ o92) ?_
        refine ab_iconst (pc := 35) (v := nI 2) dX11_processes_35 (by decide) ?_
        refine ab_icmp_eq (pc := 36) (tgt := 55) dX11_processes_36 (by decide) (fun c_36 => ?_) (fun c_36 => ?_)
        · replace hD := hD.1 c_36
          refine ab_iload_n (pc := 55) dX11_processes_55 rfl rfl ?_
          refine ab_aload_n (pc := 56) dX11_processes_56 rfl rfl ?_
          refine mo_gr (pc := 57) dX11_processes_57 fl_X11_38 rfl rfl ?_
          refine ab_iconst (pc := 60) (v := nI 3) dX11_processes_60 (by decide) ?_
          refine mo_ild (pc := 61) dX11_processes_61 (by decide) rfl (by decide) (by decide) ?_
          obtain ⟨o93, hD⟩ := hD
          refine ab_nat1 (ab_nat o93) ?_
          obtain ⟨o94, hD⟩ := hD
          obtain ⟨o95, hD⟩ := hD
          refine ab_icmp_neN (pc := 62) (tgt := 66) dX11_processes_62 (by decide) o94 o95 (fun c_62 => ?_) (fun c_62 => ?_)
          · replace hD := hD.2 c_62
            refine ab_aload_n (pc := 66) dX11_processes_66 rfl rfl ?_
            refine ab_iconst (pc := 67) (v := nI 3) dX11_processes_67 (by decide) ?_
            refine ab_iload_n (pc := 68) dX11_processes_68 rfl rfl ?_
            obtain ⟨o96, hD⟩ := hD
            refine mo_invv (N := mX11_takeOut) (pc := 69) (d' := 1) (av := [_, _]) dX11_processes_69 ml_X11_143 fv_X11_takeOut (Nat.le_of_ble_eq_true rfl) (by decide) (c_takeOut _ _ _ o96) ?_
            refine ab_aload_n (pc := 72) dX11_processes_72 rfl rfl ?_
            refine mo_gr (pc := 73) dX11_processes_73 fl_X11_61 rfl rfl ?_
            refine ab_iconst (pc := 76) (v := nI 0) dX11_processes_76 (by decide) ?_
            refine mo_ild (pc := 77) dX11_processes_77 (by decide) rfl (by decide) (by decide) ?_
            refine ab_istore_n (pc := 78) dX11_processes_78 rfl (Nat.le_of_ble_eq_true rfl) rfl ?_
            refine ab_aload_n (pc := 79) dX11_processes_79 rfl rfl ?_
            refine mo_gr (pc := 80) dX11_processes_80 fl_X11_61 rfl rfl ?_
            refine ab_iconst (pc := 83) (v := nI 2) dX11_processes_83 (by decide) ?_
            refine mo_ild (pc := 84) dX11_processes_84 (by decide) rfl (by decide) (by decide) ?_
            refine ab_istore_n (pc := 85) dX11_processes_85 rfl (Nat.le_of_ble_eq_true rfl) rfl ?_
            refine ab_aload_n (pc := 86) dX11_processes_86 rfl rfl ?_
            refine mo_gr (pc := 87) dX11_processes_87 fl_X11_61 rfl rfl ?_
            refine ab_iconst (pc := 90) (v := nI 1) dX11_processes_90 (by decide) ?_
            refine mo_ild (pc := 91) dX11_processes_91 (by decide) rfl (by decide) (by decide) ?_
            refine ab_lsw (pc := 92) [(8, 152), (9, 158), (10, 174), (11, 180), (12, 230), (32, 256)] 268 dX11_processes_92 (by decide +kernel) (by decide +kernel) (ab_c1 (fun c_92 => ?_) (ab_c1 (fun c_92 => ?_) (ab_c1 (fun c_92 => ?_) (ab_c1 (fun c_92 => ?_) (ab_c1 (fun c_92 => ?_) (ab_c1 (fun c_92 => ?_) (ab_c0))))))) (fun c_92 => ?_)
            · replace hD := hD.1 c_92
              refine ab_aload_n (pc := 152) dX11_processes_152 rfl rfl ?_
              refine ab_iload_n (pc := 153) dX11_processes_153 rfl rfl ?_
              obtain ⟨o98, hD⟩ := hD
              refine ab_stk1 (congrArg Value.int (ab_nat o98)) ?_
              obtain ⟨o99, hD⟩ := hD
              refine mo_invv (N := mX11_forks) (pc := 154) (d' := 5) (av := [_]) dX11_processes_154 ml_X11_228 fv_X11_forks (Nat.le_of_ble_eq_true rfl) (by decide) (c_forks _ _ o99) ?_
              refine mo_vr (pc := 157) dX11_processes_157 rfl ?_
              first | (rw [Fprocesses_11]; (try dsimp only); rw [if_neg c_15, if_neg c_25, if_pos c_36, if_neg c_62, if_pos c_92]; done) | (rw [Fprocesses_11]; (try dsimp only); rw [if_neg c_15, if_neg c_25, if_pos c_36, if_neg c_62, if_pos c_92]; rfl)
            · replace hD := hD.2.1 c_92
              refine ab_aload_n (pc := 158) dX11_processes_158 rfl rfl ?_
              refine ab_iload_n (pc := 159) dX11_processes_159 rfl rfl ?_
              refine ab_iload_n (pc := 160) dX11_processes_160 rfl rfl ?_
              refine ab_iload_n (pc := 161) dX11_processes_161 rfl rfl ?_
              refine ab_sipush (pc := 162) (v := nI 256) dX11_processes_162 (by decide) ?_
              obtain ⟨o101, hD⟩ := hD
              refine mo_invs (N := mJ9_floorMod_7cf53) (pc := 165) (d' := 0) (av := [_, _]) dX11_processes_165 ml_X11_231 fs_J9_floorMod_7cf53 (Nat.le_of_ble_eq_true rfl) (by decide) (c_floorMod_7cf53 _ _ _ o101) ?_
              refine ab_bipush (pc := 168) (v := nI 9) dX11_processes_168 (by decide) ?_
              obtain ⟨o102, hD⟩ := hD
              refine ab_stk4 rfl rfl (congrArg Value.int (ab_nat o102)) rfl ?_
              obtain ⟨o103, hD⟩ := hD
              refine mo_invv (N := mX11_ends) (pc := 170) (d' := 4) (av := [_, _, _, _]) dX11_processes_170 ml_X11_236 fv_X11_ends (Nat.le_of_ble_eq_true rfl) (by decide) (c_ends _ _ _ _ _ o103) ?_
              refine mo_vr (pc := 173) dX11_processes_173 rfl ?_
              first | (rw [Fprocesses_11]; (try dsimp only); rw [if_neg c_15, if_neg c_25, if_pos c_36, if_neg c_62, if_neg (fun h => absurd (c_92.symm.trans h) (by decide)), if_pos c_92]; done) | (rw [Fprocesses_11]; (try dsimp only); rw [if_neg c_15, if_neg c_25, if_pos c_36, if_neg c_62, if_neg (fun h => absurd (c_92.symm.trans h) (by decide)), if_pos c_92]; rfl)
            · replace hD := hD.2.2.1 c_92
              refine ab_aload_n (pc := 174) dX11_processes_174 rfl rfl ?_
              refine ab_iload_n (pc := 175) dX11_processes_175 rfl rfl ?_
              obtain ⟨o105, hD⟩ := hD
              refine ab_stk1 (congrArg Value.int (ab_nat o105)) ?_
              obtain ⟨o106, hD⟩ := hD
              refine mo_invv (N := mX11_waitsFor) (pc := 176) (d' := 5) (av := [_]) dX11_processes_176 ml_X11_239 fv_X11_waitsFor (Nat.le_of_ble_eq_true rfl) (by decide) (c_waitsFor _ _ o106) ?_
              refine mo_vr (pc := 179) dX11_processes_179 rfl ?_
              first | (rw [Fprocesses_11]; (try dsimp only); rw [if_neg c_15, if_neg c_25, if_pos c_36, if_neg c_62, if_neg (fun h => absurd (c_92.symm.trans h) (by decide)), if_neg (fun h => absurd (c_92.symm.trans h) (by decide)), if_pos c_92]; done) | (rw [Fprocesses_11]; (try dsimp only); rw [if_neg c_15, if_neg c_25, if_pos c_36, if_neg c_62, if_neg (fun h => absurd (c_92.symm.trans h) (by decide)), if_neg (fun h => absurd (c_92.symm.trans h) (by decide)), if_pos c_92]; rfl)
            · replace hD := hD.2.2.2.1 c_92
              refine ab_iload_n (pc := 180) dX11_processes_180 rfl rfl ?_
              refine mo_invs (N := mX11_isUser) (pc := 181) (d' := 0) (av := [_]) dX11_processes_181 ml_X11_11 fs_X11_isUser (Nat.le_of_ble_eq_true rfl) (by decide) (c_isUser _ _ trivial) ?_
              refine ab_if_eq (pc := 184) (tgt := 221) dX11_processes_184 (by decide) (fun c_184 => ?_) (fun c_184 => ?_)
              · replace hD := hD.1 c_184
                refine ab_aload_n (pc := 221) dX11_processes_221 rfl rfl ?_
                refine ab_iconst (pc := 222) (v := nI 3) dX11_processes_222 (by decide) ?_
                refine ab_iload_n (pc := 223) dX11_processes_223 rfl rfl ?_
                refine ab_bipush (pc := 224) (v := -11) dX11_processes_224 (by decide) ?_
                obtain ⟨o108, hD⟩ := hD
                refine ab_stk3 rfl (congrArg Value.int (ab_nat o108)) rfl ?_
                obtain ⟨o109, hD⟩ := hD
                refine mo_invv (N := mX11_tells) (pc := 226) (d' := 4) (av := [_, _, _]) dX11_processes_226 ml_X11_196 fv_X11_tells (Nat.le_of_ble_eq_true rfl) (by decide) (c_tells _ _ _ _ o109) ?_
                refine mo_vr (pc := 229) dX11_processes_229 rfl ?_
                first | (rw [Fprocesses_11]; (try dsimp only); rw [if_neg c_15, if_neg c_25, if_pos c_36, if_neg c_62, if_neg (fun h => absurd (c_92.symm.trans h) (by decide)), if_neg (fun h => absurd (c_92.symm.trans h) (by decide)), if_neg (fun h => absurd (c_92.symm.trans h) (by decide)), if_pos c_92, if_pos c_184]; done) | (rw [Fprocesses_11]; (try dsimp only); rw [if_neg c_15, if_neg c_25, if_pos c_36, if_neg c_62, if_neg (fun h => absurd (c_92.symm.trans h) (by decide)), if_neg (fun h => absurd (c_92.symm.trans h) (by decide)), if_neg (fun h => absurd (c_92.symm.trans h) (by decide)), if_pos c_92, if_pos c_184]; rfl)
              · replace hD := hD.2 c_184
                refine ab_aload_n (pc := 187) dX11_processes_187 rfl rfl ?_
                refine mo_gr (pc := 188) dX11_processes_188 fl_X11_83 rfl rfl ?_
                refine ab_iload_n (pc := 191) dX11_processes_191 rfl rfl ?_
                obtain ⟨o111, hD⟩ := hD
                refine ab_nat1 (ab_nat o111) ?_
                obtain ⟨o112, hD⟩ := hD
                refine mo_ild (pc := 192) dX11_processes_192 (by decide) rfl o112 (by decide) ?_
                refine ab_iload_n (pc := 193) dX11_processes_193 rfl rfl ?_
                refine ab_icmp_ne (pc := 194) (tgt := 221) dX11_processes_194 (by decide) (fun c_194 => ?_) (fun c_194 => ?_)
                · replace hD := hD.2 c_194
                  refine ab_aload_n (pc := 221) dX11_processes_221 rfl rfl ?_
                  refine ab_iconst (pc := 222) (v := nI 3) dX11_processes_222 (by decide) ?_
                  refine ab_iload_n (pc := 223) dX11_processes_223 rfl rfl ?_
                  refine ab_bipush (pc := 224) (v := -11) dX11_processes_224 (by decide) ?_
                  obtain ⟨o113, hD⟩ := hD
                  refine ab_stk3 rfl (congrArg Value.int (ab_nat o113)) rfl ?_
                  obtain ⟨o114, hD⟩ := hD
                  refine mo_invv (N := mX11_tells) (pc := 226) (d' := 4) (av := [_, _, _]) dX11_processes_226 ml_X11_196 fv_X11_tells (Nat.le_of_ble_eq_true rfl) (by decide) (c_tells _ _ _ _ o114) ?_
                  refine mo_vr (pc := 229) dX11_processes_229 rfl ?_
                  first | (rw [Fprocesses_11]; (try dsimp only); rw [if_neg c_15, if_neg c_25, if_pos c_36, if_neg c_62, if_neg (fun h => absurd (c_92.symm.trans h) (by decide)), if_neg (fun h => absurd (c_92.symm.trans h) (by decide)), if_neg (fun h => absurd (c_92.symm.trans h) (by decide)), if_pos c_92, if_neg c_184, if_neg c_194]; done) | (rw [Fprocesses_11]; (try dsimp only); rw [if_neg c_15, if_neg c_25, if_pos c_36, if_neg c_62, if_neg (fun h => absurd (c_92.symm.trans h) (by decide)), if_neg (fun h => absurd (c_92.symm.trans h) (by decide)), if_neg (fun h => absurd (c_92.symm.trans h) (by decide)), if_pos c_92, if_neg c_184, if_neg c_194]; rfl)
                · replace hD := hD.1 c_194
                  refine ab_aload_n (pc := 197) dX11_processes_197 rfl rfl ?_
                  refine mo_gr (pc := 198) dX11_processes_198 fl_X11_19 rfl rfl ?_
                  refine ab_iload_n (pc := 201) dX11_processes_201 rfl rfl ?_
                  obtain ⟨o116, hD⟩ := hD
                  refine ab_nat1 (ab_nat o116) ?_
                  obtain ⟨o117, hD⟩ := hD
                  refine mo_ild (pc := 202) dX11_processes_202 (by decide) rfl o117 (by decide) ?_
                  refine ab_iconst (pc := 203) (v := nI 1) dX11_processes_203 (by decide) ?_
                  refine ab_icmp_ne (pc := 204) (tgt := 221) dX11_processes_204 (by decide) (fun c_204 => ?_) (fun c_204 => ?_)
                  · replace hD := hD.2 c_204
                    refine ab_aload_n (pc := 221) dX11_processes_221 rfl rfl ?_
                    refine ab_iconst (pc := 222) (v := nI 3) dX11_processes_222 (by decide) ?_
                    refine ab_iload_n (pc := 223) dX11_processes_223 rfl rfl ?_
                    refine ab_bipush (pc := 224) (v := -11) dX11_processes_224 (by decide) ?_
                    obtain ⟨o118, hD⟩ := hD
                    refine ab_stk3 rfl (congrArg Value.int (ab_nat o118)) rfl ?_
                    obtain ⟨o119, hD⟩ := hD
                    refine mo_invv (N := mX11_tells) (pc := 226) (d' := 4) (av := [_, _, _]) dX11_processes_226 ml_X11_196 fv_X11_tells (Nat.le_of_ble_eq_true rfl) (by decide) (c_tells _ _ _ _ o119) ?_
                    refine mo_vr (pc := 229) dX11_processes_229 rfl ?_
                    first | (rw [Fprocesses_11]; (try dsimp only); rw [if_neg c_15, if_neg c_25, if_pos c_36, if_neg c_62, if_neg (fun h => absurd (c_92.symm.trans h) (by decide)), if_neg (fun h => absurd (c_92.symm.trans h) (by decide)), if_neg (fun h => absurd (c_92.symm.trans h) (by decide)), if_pos c_92, if_neg c_184, if_pos c_194, if_neg c_204]; done) | (rw [Fprocesses_11]; (try dsimp only); rw [if_neg c_15, if_neg c_25, if_pos c_36, if_neg c_62, if_neg (fun h => absurd (c_92.symm.trans h) (by decide)), if_neg (fun h => absurd (c_92.symm.trans h) (by decide)), if_neg (fun h => absurd (c_92.symm.trans h) (by decide)), if_pos c_92, if_neg c_184, if_pos c_194, if_neg c_204]; rfl)
                  · replace hD := hD.1 c_204
                    refine ab_aload_n (pc := 207) dX11_processes_207 rfl rfl ?_
                    refine ab_iload_n (pc := 208) dX11_processes_208 rfl rfl ?_
                    refine ab_iload_n (pc := 209) dX11_processes_209 rfl rfl ?_
                    refine ab_sipush (pc := 210) (v := nI 255) dX11_processes_210 (by decide) ?_
                    refine ab_bipush (pc := 213) (v := nI 11) dX11_processes_213 (by decide) ?_
                    obtain ⟨o121, hD⟩ := hD
                    refine ab_stk4 rfl rfl (congrArg Value.int (ab_nat o121)) rfl ?_
                    obtain ⟨o122, hD⟩ := hD
                    refine mo_invv (N := mX11_ends) (pc := 215) (d' := 4) (av := [_, _, _, _]) dX11_processes_215 ml_X11_236 fv_X11_ends (Nat.le_of_ble_eq_true rfl) (by decide) (c_ends _ _ _ _ _ o122) ?_
                    refine ab_goto (pc := 218) (tgt := 229) dX11_processes_218 (by decide) ?_
                    refine mo_vr (pc := 229) dX11_processes_229 rfl ?_
                    first | (rw [Fprocesses_11]; (try dsimp only); rw [if_neg c_15, if_neg c_25, if_pos c_36, if_neg c_62, if_neg (fun h => absurd (c_92.symm.trans h) (by decide)), if_neg (fun h => absurd (c_92.symm.trans h) (by decide)), if_neg (fun h => absurd (c_92.symm.trans h) (by decide)), if_pos c_92, if_neg c_184, if_pos c_194, if_pos c_204]; done) | (rw [Fprocesses_11]; (try dsimp only); rw [if_neg c_15, if_neg c_25, if_pos c_36, if_neg c_62, if_neg (fun h => absurd (c_92.symm.trans h) (by decide)), if_neg (fun h => absurd (c_92.symm.trans h) (by decide)), if_neg (fun h => absurd (c_92.symm.trans h) (by decide)), if_pos c_92, if_neg c_184, if_pos c_194, if_pos c_204]; rfl)
            · replace hD := hD.2.2.2.2.1 c_92
              refine ab_aload_n (pc := 230) dX11_processes_230 rfl rfl ?_
              refine ab_iconst (pc := 231) (v := nI 3) dX11_processes_231 (by decide) ?_
              refine ab_iload_n (pc := 232) dX11_processes_232 rfl rfl ?_
              refine ab_aload_n (pc := 233) dX11_processes_233 rfl rfl ?_
              refine mo_gr (pc := 234) dX11_processes_234 fl_X11_83 rfl rfl ?_
              refine ab_iload_n (pc := 237) dX11_processes_237 rfl rfl ?_
              obtain ⟨o124, hD⟩ := hD
              refine ab_nat1 (ab_nat o124) ?_
              obtain ⟨o125, hD⟩ := hD
              refine mo_ild (pc := 238) dX11_processes_238 (by decide) rfl o125 (by decide) ?_
              refine ab_if_ge (pc := 239) (tgt := 246) dX11_processes_239 (by decide) (fun c_239 => ?_) (fun c_239 => ?_)
              · replace hD := hD.1 c_239
                refine ab_aload_n (pc := 246) dX11_processes_246 rfl rfl ?_
                refine mo_gr (pc := 247) dX11_processes_247 fl_X11_83 rfl rfl ?_
                refine ab_iload_n (pc := 250) dX11_processes_250 rfl rfl ?_
                obtain ⟨o126, hD⟩ := hD
                refine ab_nat1 (ab_nat o126) ?_
                obtain ⟨o127, hD⟩ := hD
                refine mo_ild (pc := 251) dX11_processes_251 (by decide) rfl o127 (by decide) ?_
                obtain ⟨o128, hD⟩ := hD
                refine ab_stk3 rfl (congrArg Value.int (ab_nat o128)) rfl ?_
                obtain ⟨o129, hD⟩ := hD
                refine mo_invv (N := mX11_tells) (pc := 252) (d' := 4) (av := [_, _, _]) dX11_processes_252 ml_X11_196 fv_X11_tells (Nat.le_of_ble_eq_true rfl) (by decide) (c_tells _ _ _ _ o129) ?_
                refine mo_vr (pc := 255) dX11_processes_255 rfl ?_
                first | (rw [Fprocesses_11]; (try dsimp only); rw [if_neg c_15, if_neg c_25, if_pos c_36, if_neg c_62, if_neg (fun h => absurd (c_92.symm.trans h) (by decide)), if_neg (fun h => absurd (c_92.symm.trans h) (by decide)), if_neg (fun h => absurd (c_92.symm.trans h) (by decide)), if_neg (fun h => absurd (c_92.symm.trans h) (by decide)), if_pos c_92, if_pos c_239]; done) | (rw [Fprocesses_11]; (try dsimp only); rw [if_neg c_15, if_neg c_25, if_pos c_36, if_neg c_62, if_neg (fun h => absurd (c_92.symm.trans h) (by decide)), if_neg (fun h => absurd (c_92.symm.trans h) (by decide)), if_neg (fun h => absurd (c_92.symm.trans h) (by decide)), if_neg (fun h => absurd (c_92.symm.trans h) (by decide)), if_pos c_92, if_pos c_239]; rfl)
              · replace hD := hD.2 c_239
                refine ab_iconst (pc := 242) (v := nI 0) dX11_processes_242 (by decide) ?_
                refine ab_goto (pc := 243) (tgt := 252) dX11_processes_243 (by decide) ?_
                obtain ⟨o131, hD⟩ := hD
                refine ab_stk3 rfl (congrArg Value.int (ab_nat o131)) rfl ?_
                obtain ⟨o132, hD⟩ := hD
                refine mo_invv (N := mX11_tells) (pc := 252) (d' := 4) (av := [_, _, _]) dX11_processes_252 ml_X11_196 fv_X11_tells (Nat.le_of_ble_eq_true rfl) (by decide) (c_tells _ _ _ _ o132) ?_
                refine mo_vr (pc := 255) dX11_processes_255 rfl ?_
                first | (rw [Fprocesses_11]; (try dsimp only); rw [if_neg c_15, if_neg c_25, if_pos c_36, if_neg c_62, if_neg (fun h => absurd (c_92.symm.trans h) (by decide)), if_neg (fun h => absurd (c_92.symm.trans h) (by decide)), if_neg (fun h => absurd (c_92.symm.trans h) (by decide)), if_neg (fun h => absurd (c_92.symm.trans h) (by decide)), if_pos c_92, if_neg c_239]; done) | (rw [Fprocesses_11]; (try dsimp only); rw [if_neg c_15, if_neg c_25, if_pos c_36, if_neg c_62, if_neg (fun h => absurd (c_92.symm.trans h) (by decide)), if_neg (fun h => absurd (c_92.symm.trans h) (by decide)), if_neg (fun h => absurd (c_92.symm.trans h) (by decide)), if_neg (fun h => absurd (c_92.symm.trans h) (by decide)), if_pos c_92, if_neg c_239]; rfl)
            · replace hD := hD.2.2.2.2.2.1 c_92
              refine ab_aload_n (pc := 256) dX11_processes_256 rfl rfl ?_
              refine mo_gi (pc := 257) dX11_processes_257 fl_X11_225 rfl ?_
              refine ab_if_eq (pc := 260) (tgt := 267) dX11_processes_260 (by decide) (fun c_260 => ?_) (fun c_260 => ?_)
              · refine mo_vr (pc := 267) dX11_processes_267 rfl ?_
                first | (rw [Fprocesses_11]; (try dsimp only); rw [if_neg c_15, if_neg c_25, if_pos c_36, if_neg c_62, if_neg (fun h => absurd (c_92.symm.trans h) (by decide)), if_neg (fun h => absurd (c_92.symm.trans h) (by decide)), if_neg (fun h => absurd (c_92.symm.trans h) (by decide)), if_neg (fun h => absurd (c_92.symm.trans h) (by decide)), if_neg (fun h => absurd (c_92.symm.trans h) (by decide)), if_pos c_92, if_pos c_260]; done) | (rw [Fprocesses_11]; (try dsimp only); rw [if_neg c_15, if_neg c_25, if_pos c_36, if_neg c_62, if_neg (fun h => absurd (c_92.symm.trans h) (by decide)), if_neg (fun h => absurd (c_92.symm.trans h) (by decide)), if_neg (fun h => absurd (c_92.symm.trans h) (by decide)), if_neg (fun h => absurd (c_92.symm.trans h) (by decide)), if_neg (fun h => absurd (c_92.symm.trans h) (by decide)), if_pos c_92, if_pos c_260]; rfl)
              · replace hD := hD.2 c_260
                refine ab_aload_n (pc := 263) dX11_processes_263 rfl rfl ?_
                obtain ⟨o134, hD⟩ := hD
                refine mo_invv (N := mX11_done) (pc := 264) (d' := 5) (av := []) dX11_processes_264 ml_X11_242 fv_X11_done (Nat.le_of_ble_eq_true rfl) (by decide) (c_done  _ o134) ?_
                refine mo_vr (pc := 267) dX11_processes_267 rfl ?_
                first | (rw [Fprocesses_11]; (try dsimp only); rw [if_neg c_15, if_neg c_25, if_pos c_36, if_neg c_62, if_neg (fun h => absurd (c_92.symm.trans h) (by decide)), if_neg (fun h => absurd (c_92.symm.trans h) (by decide)), if_neg (fun h => absurd (c_92.symm.trans h) (by decide)), if_neg (fun h => absurd (c_92.symm.trans h) (by decide)), if_neg (fun h => absurd (c_92.symm.trans h) (by decide)), if_pos c_92, if_neg c_260]; done) | (rw [Fprocesses_11]; (try dsimp only); rw [if_neg c_15, if_neg c_25, if_pos c_36, if_neg c_62, if_neg (fun h => absurd (c_92.symm.trans h) (by decide)), if_neg (fun h => absurd (c_92.symm.trans h) (by decide)), if_neg (fun h => absurd (c_92.symm.trans h) (by decide)), if_neg (fun h => absurd (c_92.symm.trans h) (by decide)), if_neg (fun h => absurd (c_92.symm.trans h) (by decide)), if_pos c_92, if_neg c_260]; rfl)
            · refine mo_vr (pc := 268) dX11_processes_268 rfl ?_
              first | (rw [Fprocesses_11]; (try dsimp only); rw [if_neg c_15, if_neg c_25, if_pos c_36, if_neg c_62, if_neg (c_92 _ (List.mem_of_getElem? (i := 0) rfl)), if_neg (c_92 _ (List.mem_of_getElem? (i := 1) rfl)), if_neg (c_92 _ (List.mem_of_getElem? (i := 2) rfl)), if_neg (c_92 _ (List.mem_of_getElem? (i := 3) rfl)), if_neg (c_92 _ (List.mem_of_getElem? (i := 4) rfl)), if_neg (c_92 _ (List.mem_of_getElem? (i := 5) rfl))]; done) | (rw [Fprocesses_11]; (try dsimp only); rw [if_neg c_15, if_neg c_25, if_pos c_36, if_neg c_62, if_neg (c_92 _ (List.mem_of_getElem? (i := 0) rfl)), if_neg (c_92 _ (List.mem_of_getElem? (i := 1) rfl)), if_neg (c_92 _ (List.mem_of_getElem? (i := 2) rfl)), if_neg (c_92 _ (List.mem_of_getElem? (i := 3) rfl)), if_neg (c_92 _ (List.mem_of_getElem? (i := 4) rfl)), if_neg (c_92 _ (List.mem_of_getElem? (i := 5) rfl))]; rfl)
          · refine mo_vr (pc := 65) dX11_processes_65 rfl ?_
            first | (rw [Fprocesses_11]; (try dsimp only); rw [if_neg c_15, if_neg c_25, if_pos c_36, if_pos c_62]; done) | (rw [Fprocesses_11]; (try dsimp only); rw [if_neg c_15, if_neg c_25, if_pos c_36, if_pos c_62]; rfl)
        · replace hD := hD.2 c_36
          refine ab_aload_n (pc := 39) dX11_processes_39 rfl rfl ?_
          refine ab_iconst (pc := 40) (v := nI 3) dX11_processes_40 (by decide) ?_
          refine ab_iload_n (pc := 41) dX11_processes_41 rfl rfl ?_
          refine ab_iconst (pc := 42) (v := nI 1) dX11_processes_42 (by decide) ?_
          obtain ⟨o136, hD⟩ := hD
          refine mo_invr (N := mX11_field) (pc := 43) (d' := 0) (av := [_, _, _]) dX11_processes_43 ml_X11_156 fv_X11_field (Nat.le_of_ble_eq_true rfl) (by decide) (c_field _ _ _ _ o136) ?_
          refine ab_if_eq (pc := 46) (tgt := 55) dX11_processes_46 (by decide) (fun c_46 => ?_) (fun c_46 => ?_)
          · replace hD := hD.1 c_46
            refine ab_iload_n (pc := 55) dX11_processes_55 rfl rfl ?_
            refine ab_aload_n (pc := 56) dX11_processes_56 rfl rfl ?_
            refine mo_gr (pc := 57) dX11_processes_57 fl_X11_38 rfl rfl ?_
            refine ab_iconst (pc := 60) (v := nI 3) dX11_processes_60 (by decide) ?_
            refine mo_ild (pc := 61) dX11_processes_61 (by decide) rfl (by decide) (by decide) ?_
            obtain ⟨o137, hD⟩ := hD
            refine ab_nat1 (ab_nat o137) ?_
            obtain ⟨o138, hD⟩ := hD
            obtain ⟨o139, hD⟩ := hD
            refine ab_icmp_neN (pc := 62) (tgt := 66) dX11_processes_62 (by decide) o138 o139 (fun c_62 => ?_) (fun c_62 => ?_)
            · replace hD := hD.2 c_62
              refine ab_aload_n (pc := 66) dX11_processes_66 rfl rfl ?_
              refine ab_iconst (pc := 67) (v := nI 3) dX11_processes_67 (by decide) ?_
              refine ab_iload_n (pc := 68) dX11_processes_68 rfl rfl ?_
              obtain ⟨o140, hD⟩ := hD
              refine mo_invv (N := mX11_takeOut) (pc := 69) (d' := 1) (av := [_, _]) dX11_processes_69 ml_X11_143 fv_X11_takeOut (Nat.le_of_ble_eq_true rfl) (by decide) (c_takeOut _ _ _ o140) ?_
              refine ab_aload_n (pc := 72) dX11_processes_72 rfl rfl ?_
              refine mo_gr (pc := 73) dX11_processes_73 fl_X11_61 rfl rfl ?_
              refine ab_iconst (pc := 76) (v := nI 0) dX11_processes_76 (by decide) ?_
              refine mo_ild (pc := 77) dX11_processes_77 (by decide) rfl (by decide) (by decide) ?_
              refine ab_istore_n (pc := 78) dX11_processes_78 rfl (Nat.le_of_ble_eq_true rfl) rfl ?_
              refine ab_aload_n (pc := 79) dX11_processes_79 rfl rfl ?_
              refine mo_gr (pc := 80) dX11_processes_80 fl_X11_61 rfl rfl ?_
              refine ab_iconst (pc := 83) (v := nI 2) dX11_processes_83 (by decide) ?_
              refine mo_ild (pc := 84) dX11_processes_84 (by decide) rfl (by decide) (by decide) ?_
              refine ab_istore_n (pc := 85) dX11_processes_85 rfl (Nat.le_of_ble_eq_true rfl) rfl ?_
              refine ab_aload_n (pc := 86) dX11_processes_86 rfl rfl ?_
              refine mo_gr (pc := 87) dX11_processes_87 fl_X11_61 rfl rfl ?_
              refine ab_iconst (pc := 90) (v := nI 1) dX11_processes_90 (by decide) ?_
              refine mo_ild (pc := 91) dX11_processes_91 (by decide) rfl (by decide) (by decide) ?_
              refine ab_lsw (pc := 92) [(8, 152), (9, 158), (10, 174), (11, 180), (12, 230), (32, 256)] 268 dX11_processes_92 (by decide +kernel) (by decide +kernel) (ab_c1 (fun c_92 => ?_) (ab_c1 (fun c_92 => ?_) (ab_c1 (fun c_92 => ?_) (ab_c1 (fun c_92 => ?_) (ab_c1 (fun c_92 => ?_) (ab_c1 (fun c_92 => ?_) (ab_c0))))))) (fun c_92 => ?_)
              · replace hD := hD.1 c_92
                refine ab_aload_n (pc := 152) dX11_processes_152 rfl rfl ?_
                refine ab_iload_n (pc := 153) dX11_processes_153 rfl rfl ?_
                obtain ⟨o142, hD⟩ := hD
                refine ab_stk1 (congrArg Value.int (ab_nat o142)) ?_
                obtain ⟨o143, hD⟩ := hD
                refine mo_invv (N := mX11_forks) (pc := 154) (d' := 5) (av := [_]) dX11_processes_154 ml_X11_228 fv_X11_forks (Nat.le_of_ble_eq_true rfl) (by decide) (c_forks _ _ o143) ?_
                refine mo_vr (pc := 157) dX11_processes_157 rfl ?_
                first | (rw [Fprocesses_11]; (try dsimp only); rw [if_neg c_15, if_neg c_25, if_neg c_36, if_pos c_46, if_neg c_62, if_pos c_92]; done) | (rw [Fprocesses_11]; (try dsimp only); rw [if_neg c_15, if_neg c_25, if_neg c_36, if_pos c_46, if_neg c_62, if_pos c_92]; rfl)
              · replace hD := hD.2.1 c_92
                refine ab_aload_n (pc := 158) dX11_processes_158 rfl rfl ?_
                refine ab_iload_n (pc := 159) dX11_processes_159 rfl rfl ?_
                refine ab_iload_n (pc := 160) dX11_processes_160 rfl rfl ?_
                refine ab_iload_n (pc := 161) dX11_processes_161 rfl rfl ?_
                refine ab_sipush (pc := 162) (v := nI 256) dX11_processes_162 (by decide) ?_
                obtain ⟨o145, hD⟩ := hD
                refine mo_invs (N := mJ9_floorMod_7cf53) (pc := 165) (d' := 0) (av := [_, _]) dX11_processes_165 ml_X11_231 fs_J9_floorMod_7cf53 (Nat.le_of_ble_eq_true rfl) (by decide) (c_floorMod_7cf53 _ _ _ o145) ?_
                refine ab_bipush (pc := 168) (v := nI 9) dX11_processes_168 (by decide) ?_
                obtain ⟨o146, hD⟩ := hD
                refine ab_stk4 rfl rfl (congrArg Value.int (ab_nat o146)) rfl ?_
                obtain ⟨o147, hD⟩ := hD
                refine mo_invv (N := mX11_ends) (pc := 170) (d' := 4) (av := [_, _, _, _]) dX11_processes_170 ml_X11_236 fv_X11_ends (Nat.le_of_ble_eq_true rfl) (by decide) (c_ends _ _ _ _ _ o147) ?_
                refine mo_vr (pc := 173) dX11_processes_173 rfl ?_
                first | (rw [Fprocesses_11]; (try dsimp only); rw [if_neg c_15, if_neg c_25, if_neg c_36, if_pos c_46, if_neg c_62, if_neg (fun h => absurd (c_92.symm.trans h) (by decide)), if_pos c_92]; done) | (rw [Fprocesses_11]; (try dsimp only); rw [if_neg c_15, if_neg c_25, if_neg c_36, if_pos c_46, if_neg c_62, if_neg (fun h => absurd (c_92.symm.trans h) (by decide)), if_pos c_92]; rfl)
              · replace hD := hD.2.2.1 c_92
                refine ab_aload_n (pc := 174) dX11_processes_174 rfl rfl ?_
                refine ab_iload_n (pc := 175) dX11_processes_175 rfl rfl ?_
                obtain ⟨o149, hD⟩ := hD
                refine ab_stk1 (congrArg Value.int (ab_nat o149)) ?_
                obtain ⟨o150, hD⟩ := hD
                refine mo_invv (N := mX11_waitsFor) (pc := 176) (d' := 5) (av := [_]) dX11_processes_176 ml_X11_239 fv_X11_waitsFor (Nat.le_of_ble_eq_true rfl) (by decide) (c_waitsFor _ _ o150) ?_
                refine mo_vr (pc := 179) dX11_processes_179 rfl ?_
                first | (rw [Fprocesses_11]; (try dsimp only); rw [if_neg c_15, if_neg c_25, if_neg c_36, if_pos c_46, if_neg c_62, if_neg (fun h => absurd (c_92.symm.trans h) (by decide)), if_neg (fun h => absurd (c_92.symm.trans h) (by decide)), if_pos c_92]; done) | (rw [Fprocesses_11]; (try dsimp only); rw [if_neg c_15, if_neg c_25, if_neg c_36, if_pos c_46, if_neg c_62, if_neg (fun h => absurd (c_92.symm.trans h) (by decide)), if_neg (fun h => absurd (c_92.symm.trans h) (by decide)), if_pos c_92]; rfl)
              · replace hD := hD.2.2.2.1 c_92
                refine ab_iload_n (pc := 180) dX11_processes_180 rfl rfl ?_
                refine mo_invs (N := mX11_isUser) (pc := 181) (d' := 0) (av := [_]) dX11_processes_181 ml_X11_11 fs_X11_isUser (Nat.le_of_ble_eq_true rfl) (by decide) (c_isUser _ _ trivial) ?_
                refine ab_if_eq (pc := 184) (tgt := 221) dX11_processes_184 (by decide) (fun c_184 => ?_) (fun c_184 => ?_)
                · replace hD := hD.1 c_184
                  refine ab_aload_n (pc := 221) dX11_processes_221 rfl rfl ?_
                  refine ab_iconst (pc := 222) (v := nI 3) dX11_processes_222 (by decide) ?_
                  refine ab_iload_n (pc := 223) dX11_processes_223 rfl rfl ?_
                  refine ab_bipush (pc := 224) (v := -11) dX11_processes_224 (by decide) ?_
                  obtain ⟨o152, hD⟩ := hD
                  refine ab_stk3 rfl (congrArg Value.int (ab_nat o152)) rfl ?_
                  obtain ⟨o153, hD⟩ := hD
                  refine mo_invv (N := mX11_tells) (pc := 226) (d' := 4) (av := [_, _, _]) dX11_processes_226 ml_X11_196 fv_X11_tells (Nat.le_of_ble_eq_true rfl) (by decide) (c_tells _ _ _ _ o153) ?_
                  refine mo_vr (pc := 229) dX11_processes_229 rfl ?_
                  first | (rw [Fprocesses_11]; (try dsimp only); rw [if_neg c_15, if_neg c_25, if_neg c_36, if_pos c_46, if_neg c_62, if_neg (fun h => absurd (c_92.symm.trans h) (by decide)), if_neg (fun h => absurd (c_92.symm.trans h) (by decide)), if_neg (fun h => absurd (c_92.symm.trans h) (by decide)), if_pos c_92, if_pos c_184]; done) | (rw [Fprocesses_11]; (try dsimp only); rw [if_neg c_15, if_neg c_25, if_neg c_36, if_pos c_46, if_neg c_62, if_neg (fun h => absurd (c_92.symm.trans h) (by decide)), if_neg (fun h => absurd (c_92.symm.trans h) (by decide)), if_neg (fun h => absurd (c_92.symm.trans h) (by decide)), if_pos c_92, if_pos c_184]; rfl)
                · replace hD := hD.2 c_184
                  refine ab_aload_n (pc := 187) dX11_processes_187 rfl rfl ?_
                  refine mo_gr (pc := 188) dX11_processes_188 fl_X11_83 rfl rfl ?_
                  refine ab_iload_n (pc := 191) dX11_processes_191 rfl rfl ?_
                  obtain ⟨o155, hD⟩ := hD
                  refine ab_nat1 (ab_nat o155) ?_
                  obtain ⟨o156, hD⟩ := hD
                  refine mo_ild (pc := 192) dX11_processes_192 (by decide) rfl o156 (by decide) ?_
                  refine ab_iload_n (pc := 193) dX11_processes_193 rfl rfl ?_
                  refine ab_icmp_ne (pc := 194) (tgt := 221) dX11_processes_194 (by decide) (fun c_194 => ?_) (fun c_194 => ?_)
                  · replace hD := hD.2 c_194
                    refine ab_aload_n (pc := 221) dX11_processes_221 rfl rfl ?_
                    refine ab_iconst (pc := 222) (v := nI 3) dX11_processes_222 (by decide) ?_
                    refine ab_iload_n (pc := 223) dX11_processes_223 rfl rfl ?_
                    refine ab_bipush (pc := 224) (v := -11) dX11_processes_224 (by decide) ?_
                    obtain ⟨o157, hD⟩ := hD
                    refine ab_stk3 rfl (congrArg Value.int (ab_nat o157)) rfl ?_
                    obtain ⟨o158, hD⟩ := hD
                    refine mo_invv (N := mX11_tells) (pc := 226) (d' := 4) (av := [_, _, _]) dX11_processes_226 ml_X11_196 fv_X11_tells (Nat.le_of_ble_eq_true rfl) (by decide) (c_tells _ _ _ _ o158) ?_
                    refine mo_vr (pc := 229) dX11_processes_229 rfl ?_
                    first | (rw [Fprocesses_11]; (try dsimp only); rw [if_neg c_15, if_neg c_25, if_neg c_36, if_pos c_46, if_neg c_62, if_neg (fun h => absurd (c_92.symm.trans h) (by decide)), if_neg (fun h => absurd (c_92.symm.trans h) (by decide)), if_neg (fun h => absurd (c_92.symm.trans h) (by decide)), if_pos c_92, if_neg c_184, if_neg c_194]; done) | (rw [Fprocesses_11]; (try dsimp only); rw [if_neg c_15, if_neg c_25, if_neg c_36, if_pos c_46, if_neg c_62, if_neg (fun h => absurd (c_92.symm.trans h) (by decide)), if_neg (fun h => absurd (c_92.symm.trans h) (by decide)), if_neg (fun h => absurd (c_92.symm.trans h) (by decide)), if_pos c_92, if_neg c_184, if_neg c_194]; rfl)
                  · replace hD := hD.1 c_194
                    refine ab_aload_n (pc := 197) dX11_processes_197 rfl rfl ?_
                    refine mo_gr (pc := 198) dX11_processes_198 fl_X11_19 rfl rfl ?_
                    refine ab_iload_n (pc := 201) dX11_processes_201 rfl rfl ?_
                    obtain ⟨o160, hD⟩ := hD
                    refine ab_nat1 (ab_nat o160) ?_
                    obtain ⟨o161, hD⟩ := hD
                    refine mo_ild (pc := 202) dX11_processes_202 (by decide) rfl o161 (by decide) ?_
                    refine ab_iconst (pc := 203) (v := nI 1) dX11_processes_203 (by decide) ?_
                    refine ab_icmp_ne (pc := 204) (tgt := 221) dX11_processes_204 (by decide) (fun c_204 => ?_) (fun c_204 => ?_)
                    · replace hD := hD.2 c_204
                      refine ab_aload_n (pc := 221) dX11_processes_221 rfl rfl ?_
                      refine ab_iconst (pc := 222) (v := nI 3) dX11_processes_222 (by decide) ?_
                      refine ab_iload_n (pc := 223) dX11_processes_223 rfl rfl ?_
                      refine ab_bipush (pc := 224) (v := -11) dX11_processes_224 (by decide) ?_
                      obtain ⟨o162, hD⟩ := hD
                      refine ab_stk3 rfl (congrArg Value.int (ab_nat o162)) rfl ?_
                      obtain ⟨o163, hD⟩ := hD
                      refine mo_invv (N := mX11_tells) (pc := 226) (d' := 4) (av := [_, _, _]) dX11_processes_226 ml_X11_196 fv_X11_tells (Nat.le_of_ble_eq_true rfl) (by decide) (c_tells _ _ _ _ o163) ?_
                      refine mo_vr (pc := 229) dX11_processes_229 rfl ?_
                      first | (rw [Fprocesses_11]; (try dsimp only); rw [if_neg c_15, if_neg c_25, if_neg c_36, if_pos c_46, if_neg c_62, if_neg (fun h => absurd (c_92.symm.trans h) (by decide)), if_neg (fun h => absurd (c_92.symm.trans h) (by decide)), if_neg (fun h => absurd (c_92.symm.trans h) (by decide)), if_pos c_92, if_neg c_184, if_pos c_194, if_neg c_204]; done) | (rw [Fprocesses_11]; (try dsimp only); rw [if_neg c_15, if_neg c_25, if_neg c_36, if_pos c_46, if_neg c_62, if_neg (fun h => absurd (c_92.symm.trans h) (by decide)), if_neg (fun h => absurd (c_92.symm.trans h) (by decide)), if_neg (fun h => absurd (c_92.symm.trans h) (by decide)), if_pos c_92, if_neg c_184, if_pos c_194, if_neg c_204]; rfl)
                    · replace hD := hD.1 c_204
                      refine ab_aload_n (pc := 207) dX11_processes_207 rfl rfl ?_
                      refine ab_iload_n (pc := 208) dX11_processes_208 rfl rfl ?_
                      refine ab_iload_n (pc := 209) dX11_processes_209 rfl rfl ?_
                      refine ab_sipush (pc := 210) (v := nI 255) dX11_processes_210 (by decide) ?_
                      refine ab_bipush (pc := 213) (v := nI 11) dX11_processes_213 (by decide) ?_
                      obtain ⟨o165, hD⟩ := hD
                      refine ab_stk4 rfl rfl (congrArg Value.int (ab_nat o165)) rfl ?_
                      obtain ⟨o166, hD⟩ := hD
                      refine mo_invv (N := mX11_ends) (pc := 215) (d' := 4) (av := [_, _, _, _]) dX11_processes_215 ml_X11_236 fv_X11_ends (Nat.le_of_ble_eq_true rfl) (by decide) (c_ends _ _ _ _ _ o166) ?_
                      refine ab_goto (pc := 218) (tgt := 229) dX11_processes_218 (by decide) ?_
                      refine mo_vr (pc := 229) dX11_processes_229 rfl ?_
                      first | (rw [Fprocesses_11]; (try dsimp only); rw [if_neg c_15, if_neg c_25, if_neg c_36, if_pos c_46, if_neg c_62, if_neg (fun h => absurd (c_92.symm.trans h) (by decide)), if_neg (fun h => absurd (c_92.symm.trans h) (by decide)), if_neg (fun h => absurd (c_92.symm.trans h) (by decide)), if_pos c_92, if_neg c_184, if_pos c_194, if_pos c_204]; done) | (rw [Fprocesses_11]; (try dsimp only); rw [if_neg c_15, if_neg c_25, if_neg c_36, if_pos c_46, if_neg c_62, if_neg (fun h => absurd (c_92.symm.trans h) (by decide)), if_neg (fun h => absurd (c_92.symm.trans h) (by decide)), if_neg (fun h => absurd (c_92.symm.trans h) (by decide)), if_pos c_92, if_neg c_184, if_pos c_194, if_pos c_204]; rfl)
              · replace hD := hD.2.2.2.2.1 c_92
                refine ab_aload_n (pc := 230) dX11_processes_230 rfl rfl ?_
                refine ab_iconst (pc := 231) (v := nI 3) dX11_processes_231 (by decide) ?_
                refine ab_iload_n (pc := 232) dX11_processes_232 rfl rfl ?_
                refine ab_aload_n (pc := 233) dX11_processes_233 rfl rfl ?_
                refine mo_gr (pc := 234) dX11_processes_234 fl_X11_83 rfl rfl ?_
                refine ab_iload_n (pc := 237) dX11_processes_237 rfl rfl ?_
                obtain ⟨o168, hD⟩ := hD
                refine ab_nat1 (ab_nat o168) ?_
                obtain ⟨o169, hD⟩ := hD
                refine mo_ild (pc := 238) dX11_processes_238 (by decide) rfl o169 (by decide) ?_
                refine ab_if_ge (pc := 239) (tgt := 246) dX11_processes_239 (by decide) (fun c_239 => ?_) (fun c_239 => ?_)
                · replace hD := hD.1 c_239
                  refine ab_aload_n (pc := 246) dX11_processes_246 rfl rfl ?_
                  refine mo_gr (pc := 247) dX11_processes_247 fl_X11_83 rfl rfl ?_
                  refine ab_iload_n (pc := 250) dX11_processes_250 rfl rfl ?_
                  obtain ⟨o170, hD⟩ := hD
                  refine ab_nat1 (ab_nat o170) ?_
                  obtain ⟨o171, hD⟩ := hD
                  refine mo_ild (pc := 251) dX11_processes_251 (by decide) rfl o171 (by decide) ?_
                  obtain ⟨o172, hD⟩ := hD
                  refine ab_stk3 rfl (congrArg Value.int (ab_nat o172)) rfl ?_
                  obtain ⟨o173, hD⟩ := hD
                  refine mo_invv (N := mX11_tells) (pc := 252) (d' := 4) (av := [_, _, _]) dX11_processes_252 ml_X11_196 fv_X11_tells (Nat.le_of_ble_eq_true rfl) (by decide) (c_tells _ _ _ _ o173) ?_
                  refine mo_vr (pc := 255) dX11_processes_255 rfl ?_
                  first | (rw [Fprocesses_11]; (try dsimp only); rw [if_neg c_15, if_neg c_25, if_neg c_36, if_pos c_46, if_neg c_62, if_neg (fun h => absurd (c_92.symm.trans h) (by decide)), if_neg (fun h => absurd (c_92.symm.trans h) (by decide)), if_neg (fun h => absurd (c_92.symm.trans h) (by decide)), if_neg (fun h => absurd (c_92.symm.trans h) (by decide)), if_pos c_92, if_pos c_239]; done) | (rw [Fprocesses_11]; (try dsimp only); rw [if_neg c_15, if_neg c_25, if_neg c_36, if_pos c_46, if_neg c_62, if_neg (fun h => absurd (c_92.symm.trans h) (by decide)), if_neg (fun h => absurd (c_92.symm.trans h) (by decide)), if_neg (fun h => absurd (c_92.symm.trans h) (by decide)), if_neg (fun h => absurd (c_92.symm.trans h) (by decide)), if_pos c_92, if_pos c_239]; rfl)
                · replace hD := hD.2 c_239
                  refine ab_iconst (pc := 242) (v := nI 0) dX11_processes_242 (by decide) ?_
                  refine ab_goto (pc := 243) (tgt := 252) dX11_processes_243 (by decide) ?_
                  obtain ⟨o175, hD⟩ := hD
                  refine ab_stk3 rfl (congrArg Value.int (ab_nat o175)) rfl ?_
                  obtain ⟨o176, hD⟩ := hD
                  refine mo_invv (N := mX11_tells) (pc := 252) (d' := 4) (av := [_, _, _]) dX11_processes_252 ml_X11_196 fv_X11_tells (Nat.le_of_ble_eq_true rfl) (by decide) (c_tells _ _ _ _ o176) ?_
                  refine mo_vr (pc := 255) dX11_processes_255 rfl ?_
                  first | (rw [Fprocesses_11]; (try dsimp only); rw [if_neg c_15, if_neg c_25, if_neg c_36, if_pos c_46, if_neg c_62, if_neg (fun h => absurd (c_92.symm.trans h) (by decide)), if_neg (fun h => absurd (c_92.symm.trans h) (by decide)), if_neg (fun h => absurd (c_92.symm.trans h) (by decide)), if_neg (fun h => absurd (c_92.symm.trans h) (by decide)), if_pos c_92, if_neg c_239]; done) | (rw [Fprocesses_11]; (try dsimp only); rw [if_neg c_15, if_neg c_25, if_neg c_36, if_pos c_46, if_neg c_62, if_neg (fun h => absurd (c_92.symm.trans h) (by decide)), if_neg (fun h => absurd (c_92.symm.trans h) (by decide)), if_neg (fun h => absurd (c_92.symm.trans h) (by decide)), if_neg (fun h => absurd (c_92.symm.trans h) (by decide)), if_pos c_92, if_neg c_239]; rfl)
              · replace hD := hD.2.2.2.2.2.1 c_92
                refine ab_aload_n (pc := 256) dX11_processes_256 rfl rfl ?_
                refine mo_gi (pc := 257) dX11_processes_257 fl_X11_225 rfl ?_
                refine ab_if_eq (pc := 260) (tgt := 267) dX11_processes_260 (by decide) (fun c_260 => ?_) (fun c_260 => ?_)
                · refine mo_vr (pc := 267) dX11_processes_267 rfl ?_
                  first | (rw [Fprocesses_11]; (try dsimp only); rw [if_neg c_15, if_neg c_25, if_neg c_36, if_pos c_46, if_neg c_62, if_neg (fun h => absurd (c_92.symm.trans h) (by decide)), if_neg (fun h => absurd (c_92.symm.trans h) (by decide)), if_neg (fun h => absurd (c_92.symm.trans h) (by decide)), if_neg (fun h => absurd (c_92.symm.trans h) (by decide)), if_neg (fun h => absurd (c_92.symm.trans h) (by decide)), if_pos c_92, if_pos c_260]; done) | (rw [Fprocesses_11]; (try dsimp only); rw [if_neg c_15, if_neg c_25, if_neg c_36, if_pos c_46, if_neg c_62, if_neg (fun h => absurd (c_92.symm.trans h) (by decide)), if_neg (fun h => absurd (c_92.symm.trans h) (by decide)), if_neg (fun h => absurd (c_92.symm.trans h) (by decide)), if_neg (fun h => absurd (c_92.symm.trans h) (by decide)), if_neg (fun h => absurd (c_92.symm.trans h) (by decide)), if_pos c_92, if_pos c_260]; rfl)
                · replace hD := hD.2 c_260
                  refine ab_aload_n (pc := 263) dX11_processes_263 rfl rfl ?_
                  obtain ⟨o178, hD⟩ := hD
                  refine mo_invv (N := mX11_done) (pc := 264) (d' := 5) (av := []) dX11_processes_264 ml_X11_242 fv_X11_done (Nat.le_of_ble_eq_true rfl) (by decide) (c_done  _ o178) ?_
                  refine mo_vr (pc := 267) dX11_processes_267 rfl ?_
                  first | (rw [Fprocesses_11]; (try dsimp only); rw [if_neg c_15, if_neg c_25, if_neg c_36, if_pos c_46, if_neg c_62, if_neg (fun h => absurd (c_92.symm.trans h) (by decide)), if_neg (fun h => absurd (c_92.symm.trans h) (by decide)), if_neg (fun h => absurd (c_92.symm.trans h) (by decide)), if_neg (fun h => absurd (c_92.symm.trans h) (by decide)), if_neg (fun h => absurd (c_92.symm.trans h) (by decide)), if_pos c_92, if_neg c_260]; done) | (rw [Fprocesses_11]; (try dsimp only); rw [if_neg c_15, if_neg c_25, if_neg c_36, if_pos c_46, if_neg c_62, if_neg (fun h => absurd (c_92.symm.trans h) (by decide)), if_neg (fun h => absurd (c_92.symm.trans h) (by decide)), if_neg (fun h => absurd (c_92.symm.trans h) (by decide)), if_neg (fun h => absurd (c_92.symm.trans h) (by decide)), if_neg (fun h => absurd (c_92.symm.trans h) (by decide)), if_pos c_92, if_neg c_260]; rfl)
              · refine mo_vr (pc := 268) dX11_processes_268 rfl ?_
                first | (rw [Fprocesses_11]; (try dsimp only); rw [if_neg c_15, if_neg c_25, if_neg c_36, if_pos c_46, if_neg c_62, if_neg (c_92 _ (List.mem_of_getElem? (i := 0) rfl)), if_neg (c_92 _ (List.mem_of_getElem? (i := 1) rfl)), if_neg (c_92 _ (List.mem_of_getElem? (i := 2) rfl)), if_neg (c_92 _ (List.mem_of_getElem? (i := 3) rfl)), if_neg (c_92 _ (List.mem_of_getElem? (i := 4) rfl)), if_neg (c_92 _ (List.mem_of_getElem? (i := 5) rfl))]; done) | (rw [Fprocesses_11]; (try dsimp only); rw [if_neg c_15, if_neg c_25, if_neg c_36, if_pos c_46, if_neg c_62, if_neg (c_92 _ (List.mem_of_getElem? (i := 0) rfl)), if_neg (c_92 _ (List.mem_of_getElem? (i := 1) rfl)), if_neg (c_92 _ (List.mem_of_getElem? (i := 2) rfl)), if_neg (c_92 _ (List.mem_of_getElem? (i := 3) rfl)), if_neg (c_92 _ (List.mem_of_getElem? (i := 4) rfl)), if_neg (c_92 _ (List.mem_of_getElem? (i := 5) rfl))]; rfl)
            · refine mo_vr (pc := 65) dX11_processes_65 rfl ?_
              first | (rw [Fprocesses_11]; (try dsimp only); rw [if_neg c_15, if_neg c_25, if_neg c_36, if_pos c_46, if_pos c_62]; done) | (rw [Fprocesses_11]; (try dsimp only); rw [if_neg c_15, if_neg c_25, if_neg c_36, if_pos c_46, if_pos c_62]; rfl)
          · replace hD := hD.2 c_46
            refine ab_iinc (pc := 49) dX11_processes_49 rfl (ab_inc _) (Nat.le_of_ble_eq_true rfl) rfl ?_
            refine ab_goto (pc := 52) (tgt := 11) dX11_processes_52 (by decide) ?_
            refine ab_wk (ls2 := [some _, some _, none, none]) (And.intro rfl (And.intro rfl trivial)) ?_
            refine mo_eqv ?_ (ih _ _ hD)
            first | (rw [Fprocesses_11]; (try dsimp only); rw [if_neg c_15, if_neg c_25, if_neg c_36, if_neg c_46]; done) | (rw [Fprocesses_11]; (try dsimp only); rw [if_neg c_15, if_neg c_25, if_neg c_36, if_neg c_46]; rfl)
def Fprocesses  (m : mD) : mD :=
  let z2 := FsendsAgain 3 m
  if (z2.1) = 0 then
    Fprocesses_11 14 0 z2.2
  else
    z2.2
def Dprocesses  (m : mD) : Prop :=
  (DsendsAgain 3 m) ∧
  let z2 := FsendsAgain 3 m
  (((z2.1) = 0) →
    Dprocesses_11 14 0 z2.2) ∧
  (¬ ((z2.1) = 0) →
    True)
set_option maxRecDepth 100000 in
set_option maxHeartbeats 4000000 in
theorem c_processes {tt : Prop}  (m : mD) (hD : Dprocesses  m) : ab_Met mX11_processes 6 0 0 tt [.ref (0)] (sM m) (mQv (Fprocesses  m)) := by
  refine ab_Met.of rfl (Nat.le_of_ble_eq_true rfl) ?_
  show mV mX11_processes 6 tt (mQv (Fprocesses  m)) 0 [some (.ref (0)), none, none, none] [] m
  refine ab_aload_n (pc := 0) dX11_processes_0 rfl rfl ?_
  refine ab_iconst (pc := 1) (v := nI 3) dX11_processes_1 (by decide) ?_
  obtain ⟨o1, hD⟩ := hD
  refine mo_invi (N := mX11_sendsAgain) (pc := 2) (d' := 4) (av := [_]) dX11_processes_2 ml_X11_137 fv_X11_sendsAgain (Nat.le_of_ble_eq_true rfl) (by decide) (c_sendsAgain _ _ o1) ?_
  refine ab_if_eq (pc := 5) (tgt := 9) dX11_processes_5 (by decide) (fun c_5 => ?_) (fun c_5 => ?_)
  · replace hD := hD.1 c_5
    refine ab_iconst (pc := 9) (v := nI 0) dX11_processes_9 (by decide) ?_
    refine ab_istore_n (pc := 10) dX11_processes_10 rfl (Nat.le_of_ble_eq_true rfl) rfl ?_
    refine ab_wk (ls2 := [some _, some _, none, none]) (And.intro rfl (And.intro rfl trivial)) ?_
    refine mo_eqv ?_ (w_processes_11 14 _ _ hD)
    first | (rw [Fprocesses]; (try dsimp only); rw [if_pos c_5]; done) | (rw [Fprocesses]; (try dsimp only); rw [if_pos c_5]; rfl)
  · refine mo_vr (pc := 8) dX11_processes_8 rfl ?_
    first | (rw [Fprocesses]; (try dsimp only); rw [if_neg c_5]; done) | (rw [Fprocesses]; (try dsimp only); rw [if_neg c_5]; rfl)
def FofUser (u : Nat) (m : mD) : mD :=
  if ((m 2 u).toNatClampNeg) = 0 then
    m
  else
    let z5 := FtakeOut u 0 m
    if (z5 6 1) = (nI (50)) then
      let m7 := ab_up z5 8 u (nI (0))
      let m9 := ab_up m7 9 u (m7 6 2)
      let m12 := ab_up m9 10 u ((m9 10 u) + (nI (1)))
      m12
    else
      z5
def DofUser (u : Nat) (m : mD) : Prop :=
  (u < 12) ∧
  (¬ (m 2 u) < 0) ∧
  (((m 2 u).toNatClampNeg) < 2147483648) ∧
  ((((m 2 u).toNatClampNeg) = 0) →
    True) ∧
  (¬ (((m 2 u).toNatClampNeg) = 0) →
    (DtakeOut u 0 m) ∧
    let z5 := FtakeOut u 0 m
    (((z5 6 1) = (nI (50))) →
      (u < 12) ∧
      let m7 := ab_up z5 8 u (nI (0))
      (u < 12) ∧
      let m9 := ab_up m7 9 u (m7 6 2)
      (u < 12) ∧
      (u < 12) ∧
      let m12 := ab_up m9 10 u ((m9 10 u) + (nI (1)))
      True) ∧
    (¬ ((z5 6 1) = (nI (50))) →
      True))
set_option maxRecDepth 100000 in
set_option maxHeartbeats 4000000 in
theorem c_ofUser {tt : Prop} (u : Nat) (m : mD) (hD : DofUser u m) : ab_Met mX11_ofUser 2 0 0 tt [.ref (0), .int (nI (u))] (sM m) (mQv (FofUser u m)) := by
  refine ab_Met.of rfl (Nat.le_of_ble_eq_true rfl) ?_
  show mV mX11_ofUser 2 tt (mQv (FofUser u m)) 0 [some (.ref (0)), some (.int (nI (u)))] [] m
  refine ab_aload_n (pc := 0) dX11_ofUser_0 rfl rfl ?_
  refine mo_gr (pc := 1) dX11_ofUser_1 fl_X11_38 rfl rfl ?_
  refine ab_iload_n (pc := 4) dX11_ofUser_4 rfl rfl ?_
  obtain ⟨o1, hD⟩ := hD
  refine mo_ild (pc := 5) dX11_ofUser_5 (by decide) rfl o1 (by decide) ?_
  obtain ⟨o2, hD⟩ := hD
  refine ab_nat1 (ab_nat o2) ?_
  obtain ⟨o3, hD⟩ := hD
  refine ab_if_neN (pc := 6) (tgt := 10) dX11_ofUser_6 (by decide) o3 (fun c_6 => ?_) (fun c_6 => ?_)
  · replace hD := hD.2 c_6
    refine ab_aload_n (pc := 10) dX11_ofUser_10 rfl rfl ?_
    refine ab_iload_n (pc := 11) dX11_ofUser_11 rfl rfl ?_
    refine ab_iconst (pc := 12) (v := nI 0) dX11_ofUser_12 (by decide) ?_
    obtain ⟨o4, hD⟩ := hD
    refine mo_invv (N := mX11_takeOut) (pc := 13) (d' := 1) (av := [_, _]) dX11_ofUser_13 ml_X11_143 fv_X11_takeOut (Nat.le_of_ble_eq_true rfl) (by decide) (c_takeOut _ _ _ o4) ?_
    refine ab_aload_n (pc := 16) dX11_ofUser_16 rfl rfl ?_
    refine mo_gr (pc := 17) dX11_ofUser_17 fl_X11_61 rfl rfl ?_
    refine ab_iconst (pc := 20) (v := nI 1) dX11_ofUser_20 (by decide) ?_
    refine mo_ild (pc := 21) dX11_ofUser_21 (by decide) rfl (by decide) (by decide) ?_
    refine ab_bipush (pc := 22) (v := nI 50) dX11_ofUser_22 (by decide) ?_
    refine ab_icmp_ne (pc := 24) (tgt := 56) dX11_ofUser_24 (by decide) (fun c_24 => ?_) (fun c_24 => ?_)
    · refine mo_vr (pc := 56) dX11_ofUser_56 rfl ?_
      first | (rw [FofUser]; (try dsimp only); rw [if_neg c_6, if_neg c_24]; done) | (rw [FofUser]; (try dsimp only); rw [if_neg c_6, if_neg c_24]; rfl)
    · replace hD := hD.1 c_24
      refine ab_aload_n (pc := 27) dX11_ofUser_27 rfl rfl ?_
      refine mo_gr (pc := 28) dX11_ofUser_28 fl_X11_73 rfl rfl ?_
      refine ab_iload_n (pc := 31) dX11_ofUser_31 rfl rfl ?_
      refine ab_iconst (pc := 32) (v := nI 0) dX11_ofUser_32 (by decide) ?_
      obtain ⟨o6, hD⟩ := hD
      refine mo_zst (pc := 33) dX11_ofUser_33 (by decide) rfl o6 (by decide) (Or.inl rfl) ?_
      refine ab_aload_n (pc := 34) dX11_ofUser_34 rfl rfl ?_
      refine mo_gr (pc := 35) dX11_ofUser_35 fl_X11_77 rfl rfl ?_
      refine ab_iload_n (pc := 38) dX11_ofUser_38 rfl rfl ?_
      refine ab_aload_n (pc := 39) dX11_ofUser_39 rfl rfl ?_
      refine mo_gr (pc := 40) dX11_ofUser_40 fl_X11_61 rfl rfl ?_
      refine ab_iconst (pc := 43) (v := nI 2) dX11_ofUser_43 (by decide) ?_
      refine mo_ild (pc := 44) dX11_ofUser_44 (by decide) rfl (by decide) (by decide) ?_
      obtain ⟨o8, hD⟩ := hD
      refine mo_ist (pc := 45) dX11_ofUser_45 (by decide) rfl o8 (by decide) ?_
      refine ab_aload_n (pc := 46) dX11_ofUser_46 rfl rfl ?_
      refine mo_gr (pc := 47) dX11_ofUser_47 fl_X11_80 rfl rfl ?_
      refine ab_iload_n (pc := 50) dX11_ofUser_50 rfl rfl ?_
      refine ab_dup2 (pc := 51) dX11_ofUser_51 rfl rfl ?_
      obtain ⟨o10, hD⟩ := hD
      refine mo_ild (pc := 52) dX11_ofUser_52 (by decide) rfl o10 (by decide) ?_
      refine ab_iconst (pc := 53) (v := nI 1) dX11_ofUser_53 (by decide) ?_
      refine ab_iadd (pc := 54) dX11_ofUser_54 ?_
      obtain ⟨o11, hD⟩ := hD
      refine mo_ist (pc := 55) dX11_ofUser_55 (by decide) rfl o11 (by decide) ?_
      refine mo_vr (pc := 56) dX11_ofUser_56 rfl ?_
      first | (rw [FofUser]; (try dsimp only); rw [if_neg c_6, if_pos c_24]; done) | (rw [FofUser]; (try dsimp only); rw [if_neg c_6, if_pos c_24]; rfl)
  · refine mo_vr (pc := 9) dX11_ofUser_9 rfl ?_
    first | (rw [FofUser]; (try dsimp only); rw [if_pos c_6]; done) | (rw [FofUser]; (try dsimp only); rw [if_pos c_6]; rfl)
def Fturn  (m : mD) : mD :=
  let m4 := ab_up m 0 48 (nI ((((m 0 48).toNatClampNeg) + 1) % 12))
  let m5 := ab_up m4 0 47 ((m4 0 47) + (nI (1)))
  if (Flives ((m 0 48).toNatClampNeg) m5) = 0 then
    m5
  else
    if ((m 0 48).toNatClampNeg) = 0 then
      let z20 := Fkeeper  m5
      z20
    else
      if ((m 0 48).toNatClampNeg) = 1 then
        let z18 := Fdriver  m5
        z18
      else
        if ((m 0 48).toNatClampNeg) = 2 then
          let z16 := Ffiles  m5
          z16
        else
          if ((m 0 48).toNatClampNeg) = 3 then
            let z14 := Fprocesses  m5
            z14
          else
            let z12 := FofUser ((m 0 48).toNatClampNeg) m5
            z12
def Dturn  (m : mD) : Prop :=
  (¬ (m 0 48) < 0) ∧
  (¬ (m 0 48) < 0) ∧
  ((((m 0 48).toNatClampNeg) + 1) < 2147483648) ∧
  let m4 := ab_up m 0 48 (nI ((((m 0 48).toNatClampNeg) + 1) % 12))
  let m5 := ab_up m4 0 47 ((m4 0 47) + (nI (1)))
  (Dlives ((m 0 48).toNatClampNeg) m5) ∧
  (((Flives ((m 0 48).toNatClampNeg) m5) = 0) →
    True) ∧
  (¬ ((Flives ((m 0 48).toNatClampNeg) m5) = 0) →
    (((m 0 48).toNatClampNeg) < 2147483648) ∧
    ((((m 0 48).toNatClampNeg) = 0) →
      (Dkeeper  m5) ∧
      let z20 := Fkeeper  m5
      True) ∧
    (¬ (((m 0 48).toNatClampNeg) = 0) →
      (((m 0 48).toNatClampNeg) < 2147483648) ∧
      ((((m 0 48).toNatClampNeg) = 1) →
        (Ddriver  m5) ∧
        let z18 := Fdriver  m5
        True) ∧
      (¬ (((m 0 48).toNatClampNeg) = 1) →
        (((m 0 48).toNatClampNeg) < 2147483648) ∧
        ((((m 0 48).toNatClampNeg) = 2) →
          (Dfiles  m5) ∧
          let z16 := Ffiles  m5
          True) ∧
        (¬ (((m 0 48).toNatClampNeg) = 2) →
          (((m 0 48).toNatClampNeg) < 2147483648) ∧
          ((((m 0 48).toNatClampNeg) = 3) →
            (Dprocesses  m5) ∧
            let z14 := Fprocesses  m5
            True) ∧
          (¬ (((m 0 48).toNatClampNeg) = 3) →
            (DofUser ((m 0 48).toNatClampNeg) m5) ∧
            let z12 := FofUser ((m 0 48).toNatClampNeg) m5
            True)))))
set_option maxRecDepth 100000 in
set_option maxHeartbeats 4000000 in
theorem c_turn {tt : Prop}  (m : mD) (hD : Dturn  m) : ab_Met mX11_turn 8 0 0 tt [.ref (0)] (sM m) (mQv (Fturn  m)) := by
  refine ab_Met.of rfl (Nat.le_of_ble_eq_true rfl) ?_
  show mV mX11_turn 8 tt (mQv (Fturn  m)) 0 [some (.ref (0)), none] [] m
  refine ab_aload_n (pc := 0) dX11_turn_0 rfl rfl ?_
  refine mo_gi (pc := 1) dX11_turn_1 fl_X11_260 rfl ?_
  obtain ⟨o1, hD⟩ := hD
  refine ab_nat1 (ab_nat o1) ?_
  refine ab_istore_n (pc := 4) dX11_turn_4 rfl (Nat.le_of_ble_eq_true rfl) rfl ?_
  refine ab_aload_n (pc := 5) dX11_turn_5 rfl rfl ?_
  refine ab_aload_n (pc := 6) dX11_turn_6 rfl rfl ?_
  refine mo_gi (pc := 7) dX11_turn_7 fl_X11_260 rfl ?_
  obtain ⟨o2, hD⟩ := hD
  refine ab_nat1 (ab_nat o2) ?_
  refine ab_iconst (pc := 10) (v := nI 1) dX11_turn_10 (by decide) ?_
  refine ab_iaddN (pc := 11) dX11_turn_11 ?_
  refine ab_bipush (pc := 12) (v := nI 12) dX11_turn_12 (by decide) ?_
  obtain ⟨o3, hD⟩ := hD
  refine ab_iremN (pc := 14) dX11_turn_14 o3 (by decide) (by decide) ?_
  refine mo_pi (pc := 15) dX11_turn_15 fl_X11_260 rfl rfl (ab_ok_i _) ?_
  refine ab_aload_n (pc := 18) dX11_turn_18 rfl rfl ?_
  refine ab_dup (pc := 19) dX11_turn_19 rfl ?_
  refine mo_gi (pc := 20) dX11_turn_20 fl_X11_263 rfl ?_
  refine ab_iconst (pc := 23) (v := nI 1) dX11_turn_23 (by decide) ?_
  refine ab_iadd (pc := 24) dX11_turn_24 ?_
  refine mo_pi (pc := 25) dX11_turn_25 fl_X11_263 rfl rfl (ab_ok_i _) ?_
  refine ab_aload_n (pc := 28) dX11_turn_28 rfl rfl ?_
  refine ab_iload_n (pc := 29) dX11_turn_29 rfl rfl ?_
  obtain ⟨o6, hD⟩ := hD
  refine mo_invr (N := mX11_lives) (pc := 30) (d' := 1) (av := [_]) dX11_turn_30 ml_X11_29 fv_X11_lives (Nat.le_of_ble_eq_true rfl) (by decide) (c_lives _ _ o6) ?_
  refine ab_if_ne (pc := 33) (tgt := 37) dX11_turn_33 (by decide) (fun c_33 => ?_) (fun c_33 => ?_)
  · replace hD := hD.2 c_33
    refine ab_iload_n (pc := 37) dX11_turn_37 rfl rfl ?_
    obtain ⟨o7, hD⟩ := hD
    refine ab_if_neN (pc := 38) (tgt := 48) dX11_turn_38 (by decide) o7 (fun c_38 => ?_) (fun c_38 => ?_)
    · replace hD := hD.2 c_38
      refine ab_iload_n (pc := 48) dX11_turn_48 rfl rfl ?_
      refine ab_iconst (pc := 49) (v := nI 1) dX11_turn_49 (by decide) ?_
      obtain ⟨o8, hD⟩ := hD
      refine ab_icmp_neN (pc := 50) (tgt := 60) dX11_turn_50 (by decide) o8 (by decide) (fun c_50 => ?_) (fun c_50 => ?_)
      · replace hD := hD.2 c_50
        refine ab_iload_n (pc := 60) dX11_turn_60 rfl rfl ?_
        refine ab_iconst (pc := 61) (v := nI 2) dX11_turn_61 (by decide) ?_
        obtain ⟨o9, hD⟩ := hD
        refine ab_icmp_neN (pc := 62) (tgt := 72) dX11_turn_62 (by decide) o9 (by decide) (fun c_62 => ?_) (fun c_62 => ?_)
        · replace hD := hD.2 c_62
          refine ab_iload_n (pc := 72) dX11_turn_72 rfl rfl ?_
          refine ab_iconst (pc := 73) (v := nI 3) dX11_turn_73 (by decide) ?_
          obtain ⟨o10, hD⟩ := hD
          refine ab_icmp_neN (pc := 74) (tgt := 84) dX11_turn_74 (by decide) o10 (by decide) (fun c_74 => ?_) (fun c_74 => ?_)
          · replace hD := hD.2 c_74
            refine ab_aload_n (pc := 84) dX11_turn_84 rfl rfl ?_
            refine ab_iload_n (pc := 85) dX11_turn_85 rfl rfl ?_
            obtain ⟨o11, hD⟩ := hD
            refine mo_invv (N := mX11_ofUser) (pc := 86) (d' := 2) (av := [_]) dX11_turn_86 ml_X11_278 fv_X11_ofUser (Nat.le_of_ble_eq_true rfl) (by decide) (c_ofUser _ _ o11) ?_
            refine mo_vr (pc := 89) dX11_turn_89 rfl ?_
            first | (rw [Fturn]; (try dsimp only); rw [if_neg c_33, if_neg c_38, if_neg c_50, if_neg c_62, if_neg c_74]; done) | (rw [Fturn]; (try dsimp only); rw [if_neg c_33, if_neg c_38, if_neg c_50, if_neg c_62, if_neg c_74]; rfl)
          · replace hD := hD.1 c_74
            refine ab_aload_n (pc := 77) dX11_turn_77 rfl rfl ?_
            obtain ⟨o13, hD⟩ := hD
            refine mo_invv (N := mX11_processes) (pc := 78) (d' := 6) (av := []) dX11_turn_78 ml_X11_275 fv_X11_processes (Nat.le_of_ble_eq_true rfl) (by decide) (c_processes  _ o13) ?_
            refine ab_goto (pc := 81) (tgt := 89) dX11_turn_81 (by decide) ?_
            refine mo_vr (pc := 89) dX11_turn_89 rfl ?_
            first | (rw [Fturn]; (try dsimp only); rw [if_neg c_33, if_neg c_38, if_neg c_50, if_neg c_62, if_pos c_74]; done) | (rw [Fturn]; (try dsimp only); rw [if_neg c_33, if_neg c_38, if_neg c_50, if_neg c_62, if_pos c_74]; rfl)
        · replace hD := hD.1 c_62
          refine ab_aload_n (pc := 65) dX11_turn_65 rfl rfl ?_
          obtain ⟨o15, hD⟩ := hD
          refine mo_invv (N := mX11_files) (pc := 66) (d' := 7) (av := []) dX11_turn_66 ml_X11_272 fv_X11_files (Nat.le_of_ble_eq_true rfl) (by decide) (c_files  _ o15) ?_
          refine ab_goto (pc := 69) (tgt := 89) dX11_turn_69 (by decide) ?_
          refine mo_vr (pc := 89) dX11_turn_89 rfl ?_
          first | (rw [Fturn]; (try dsimp only); rw [if_neg c_33, if_neg c_38, if_neg c_50, if_pos c_62]; done) | (rw [Fturn]; (try dsimp only); rw [if_neg c_33, if_neg c_38, if_neg c_50, if_pos c_62]; rfl)
      · replace hD := hD.1 c_50
        refine ab_aload_n (pc := 53) dX11_turn_53 rfl rfl ?_
        obtain ⟨o17, hD⟩ := hD
        refine mo_invv (N := mX11_driver) (pc := 54) (d' := 5) (av := []) dX11_turn_54 ml_X11_269 fv_X11_driver (Nat.le_of_ble_eq_true rfl) (by decide) (c_driver  _ o17) ?_
        refine ab_goto (pc := 57) (tgt := 89) dX11_turn_57 (by decide) ?_
        refine mo_vr (pc := 89) dX11_turn_89 rfl ?_
        first | (rw [Fturn]; (try dsimp only); rw [if_neg c_33, if_neg c_38, if_pos c_50]; done) | (rw [Fturn]; (try dsimp only); rw [if_neg c_33, if_neg c_38, if_pos c_50]; rfl)
    · replace hD := hD.1 c_38
      refine ab_aload_n (pc := 41) dX11_turn_41 rfl rfl ?_
      obtain ⟨o19, hD⟩ := hD
      refine mo_invv (N := mX11_keeper) (pc := 42) (d' := 5) (av := []) dX11_turn_42 ml_X11_266 fv_X11_keeper (Nat.le_of_ble_eq_true rfl) (by decide) (c_keeper  _ o19) ?_
      refine ab_goto (pc := 45) (tgt := 89) dX11_turn_45 (by decide) ?_
      refine mo_vr (pc := 89) dX11_turn_89 rfl ?_
      first | (rw [Fturn]; (try dsimp only); rw [if_neg c_33, if_pos c_38]; done) | (rw [Fturn]; (try dsimp only); rw [if_neg c_33, if_pos c_38]; rfl)
  · refine mo_vr (pc := 36) dX11_turn_36 rfl ?_
    first | (rw [Fturn]; (try dsimp only); rw [if_pos c_33]; done) | (rw [Fturn]; (try dsimp only); rw [if_pos c_33]; rfl)
