/-! THE CLASS's CONSTRUCTORS, II -/
def iX5 (i : Nat → Nat → Int32) : Nat → Nat → Int32 := i
def rX5 (r : Nat → Nat → Option Nat) : Nat → Nat → Option Nat := r
theorem Fr.x5 {i : Nat → Nat → Int32} {r : Nat → Nat → Option Nat} (hf : Fr 344 i r) : Fr 344 (iX5 i) (rX5 r) := by
  exact hf
set_option maxRecDepth 100000 in
set_option maxHeartbeats 4000000 in
theorem n_X5 {tt : Prop} (htt : tt) {i : Nat → Nat → Int32} {r : Nat → Nat → Option Nat} (hf : Fr 344 i r) : ab_Met mX5_init 1 0 0 tt [.ref (343 : Nat)] (sN shX 344 i r) (cQ shX 344 (iX5 i) (rX5 r)) := by
  refine ab_Met.of rfl (Nat.le_of_ble_eq_true rfl) ?_
  show ab_V mX5_init 1 0 0 tt (cQ shX 344 (iX5 i) (rX5 r)) 0 0 0 [some (.ref (343 : Nat))] [] (sN shX 344 i r)
  refine ab_aload_n (pc := 0) dX5_init_0 rfl rfl ?_
  refine ab_obj (pc := 1) dX5_init_1 ml_X5_3 (Nat.le_of_ble_eq_true rfl) (by omega) ?_
  exact ab_return (pc := 4) dX5_init_4 rfl ⟨by omega, by omega⟩ (fun _ => by omega) ⟨rfl, rfl⟩
def iX2 (i : Nat → Nat → Int32) : Nat → Nat → Int32 := ab_up (i) 344 4 (-1)
def rX2 (r : Nat → Nat → Option Nat) : Nat → Nat → Option Nat := ab_up (ab_up (r) 344 0 (some (345))) 344 1 (some (346))
theorem Fr.x2 {i : Nat → Nat → Int32} {r : Nat → Nat → Option Nat} (hf : Fr 345 i r) : Fr 347 (iX2 i) (rX2 r) := by
  have f1 := Fr.mono (n' := 346) hf (by omega)
  have f2 := Fr.ur (q := 344) (j := 0) (w := some (345)) f1 (by omega)
  have f3 := Fr.mono (n' := 347) f2 (by omega)
  have f4 := Fr.ur (q := 344) (j := 1) (w := some (346)) f3 (by omega)
  have f5 := Fr.ui (q := 344) (j := 4) (v := (-1)) f4 (by omega)
  exact f5
set_option maxRecDepth 100000 in
set_option maxHeartbeats 4000000 in
theorem n_X2 {tt : Prop} (htt : tt) {i : Nat → Nat → Int32} {r : Nat → Nat → Option Nat} (hf : Fr 345 i r) : ab_Met mX2_init 1 2 200 tt [.ref (344 : Nat)] (sN shX 345 i r) (cQ shX 347 (iX2 i) (rX2 r)) := by
  refine ab_Met.of rfl (Nat.le_of_ble_eq_true rfl) ?_
  show ab_V mX2_init 1 2 200 tt (cQ shX 347 (iX2 i) (rX2 r)) 0 0 0 [some (.ref (344 : Nat))] [] (sN shX 345 i r)
  refine ab_aload_n (pc := 0) dX2_init_0 rfl rfl ?_
  refine ab_obj (pc := 1) dX2_init_1 ml_X2_3 (Nat.le_of_ble_eq_true rfl) (by omega) ?_
  refine ab_aload_n (pc := 4) dX2_init_4 rfl rfl ?_
  refine ab_sipush (pc := 5) (v := nI 192) dX2_init_5 (by decide) ?_
  refine cn_newa (pc := 8) (n' := 346) (kd := 100) (len := 192) dX2_init_8 htt (by omega) (by first | exact Or.inl ⟨rfl, rfl⟩ | exact Or.inr ⟨rfl, rfl⟩) rfl hf (by decide) ⟨by omega, by omega⟩ rfl ?_
  have f1 := Fr.mono (n' := 346) hf (by omega)
  refine cn_putR (pc := 10) dX2_init_10 fl_X2_9 (by omega) rfl rfl (fun _ _ _ h => by cases h; first | exact Or.inl rfl | exact Or.inr ⟨rfl, rfl, rfl⟩) ?_
  have f2 := Fr.ur (q := 344) (j := 0) (w := some (345)) f1 (by omega)
  refine ab_aload_n (pc := 13) dX2_init_13 rfl rfl ?_
  refine ab_bipush (pc := 14) (v := nI 8) dX2_init_14 (by decide) ?_
  refine cn_newa (pc := 16) (n' := 347) (kd := 100) (len := 8) dX2_init_16 htt (by omega) (by first | exact Or.inl ⟨rfl, rfl⟩ | exact Or.inr ⟨rfl, rfl⟩) rfl f2 (by decide) ⟨by omega, by omega⟩ rfl ?_
  have f3 := Fr.mono (n' := 347) f2 (by omega)
  refine cn_putR (pc := 18) dX2_init_18 fl_X2_15 (by omega) rfl rfl (fun _ _ _ h => by cases h; first | exact Or.inl rfl | exact Or.inr ⟨rfl, rfl, rfl⟩) ?_
  have f4 := Fr.ur (q := 344) (j := 1) (w := some (346)) f3 (by omega)
  refine ab_aload_n (pc := 21) dX2_init_21 rfl rfl ?_
  refine ab_iconst (pc := 22) (v := (-1)) dX2_init_22 (by decide) ?_
  refine cn_putI (pc := 23) dX2_init_23 fl_X2_18 (by omega) rfl rfl (fun _ _ _ h => by cases h; first | exact Or.inl rfl | exact Or.inr ⟨rfl, rfl, rfl⟩) (by first | exact ab_ok_i _ | exact ab_ok_b (Or.inr rfl)) ?_
  have f5 := Fr.ui (q := 344) (j := 4) (v := (-1)) f4 (by omega)
  exact ab_return (pc := 26) dX2_init_26 rfl ⟨by omega, by omega⟩ (fun _ => by omega) ⟨rfl, rfl⟩
def iX4 (i : Nat → Nat → Int32) : Nat → Nat → Int32 := ab_up (i) 348 5 (nI 24)
def rX4 (r : Nat → Nat → Option Nat) : Nat → Nat → Option Nat := ab_up (ab_up (ab_up (ab_up (r) 348 0 (some (349))) 348 1 (some (350))) 348 2 (some (351))) 348 3 (some (352))
theorem Fr.x4 {i : Nat → Nat → Int32} {r : Nat → Nat → Option Nat} (hf : Fr 349 i r) : Fr 353 (iX4 i) (rX4 r) := by
  have f1 := Fr.mono (n' := 350) hf (by omega)
  have f2 := Fr.ur (q := 348) (j := 0) (w := some (349)) f1 (by omega)
  have f3 := Fr.mono (n' := 351) f2 (by omega)
  have f4 := Fr.ur (q := 348) (j := 1) (w := some (350)) f3 (by omega)
  have f5 := Fr.mono (n' := 352) f4 (by omega)
  have f6 := Fr.ur (q := 348) (j := 2) (w := some (351)) f5 (by omega)
  have f7 := Fr.mono (n' := 353) f6 (by omega)
  have f8 := Fr.ur (q := 348) (j := 3) (w := some (352)) f7 (by omega)
  have f9 := Fr.ui (q := 348) (j := 5) (v := nI 24) f8 (by omega)
  exact f9
set_option maxRecDepth 100000 in
set_option maxHeartbeats 4000000 in
theorem n_X4 {tt : Prop} (htt : tt) {i : Nat → Nat → Int32} {r : Nat → Nat → Option Nat} (hf : Fr 349 i r) : ab_Met mX4_init 1 4 120 tt [.ref (348 : Nat)] (sN shX 349 i r) (cQ shX 353 (iX4 i) (rX4 r)) := by
  refine ab_Met.of rfl (Nat.le_of_ble_eq_true rfl) ?_
  show ab_V mX4_init 1 4 120 tt (cQ shX 353 (iX4 i) (rX4 r)) 0 0 0 [some (.ref (348 : Nat))] [] (sN shX 349 i r)
  refine ab_aload_n (pc := 0) dX4_init_0 rfl rfl ?_
  refine ab_obj (pc := 1) dX4_init_1 ml_X4_3 (Nat.le_of_ble_eq_true rfl) (by omega) ?_
  refine ab_aload_n (pc := 4) dX4_init_4 rfl rfl ?_
  refine ab_bipush (pc := 5) (v := nI 16) dX4_init_5 (by decide) ?_
  refine cn_newa (pc := 7) (n' := 350) (kd := 101) (len := 16) dX4_init_7 htt (by omega) (by first | exact Or.inl ⟨rfl, rfl⟩ | exact Or.inr ⟨rfl, rfl⟩) rfl hf (by decide) ⟨by omega, by omega⟩ rfl ?_
  have f1 := Fr.mono (n' := 350) hf (by omega)
  refine cn_putR (pc := 9) dX4_init_9 fl_X4_9 (by omega) rfl rfl (fun _ _ _ h => by cases h; first | exact Or.inl rfl | exact Or.inr ⟨rfl, rfl, rfl⟩) ?_
  have f2 := Fr.ur (q := 348) (j := 0) (w := some (349)) f1 (by omega)
  refine ab_aload_n (pc := 12) dX4_init_12 rfl rfl ?_
  refine ab_bipush (pc := 13) (v := nI 16) dX4_init_13 (by decide) ?_
  refine cn_newa (pc := 15) (n' := 351) (kd := 100) (len := 16) dX4_init_15 htt (by omega) (by first | exact Or.inl ⟨rfl, rfl⟩ | exact Or.inr ⟨rfl, rfl⟩) rfl f2 (by decide) ⟨by omega, by omega⟩ rfl ?_
  have f3 := Fr.mono (n' := 351) f2 (by omega)
  refine cn_putR (pc := 17) dX4_init_17 fl_X4_15 (by omega) rfl rfl (fun _ _ _ h => by cases h; first | exact Or.inl rfl | exact Or.inr ⟨rfl, rfl, rfl⟩) ?_
  have f4 := Fr.ur (q := 348) (j := 1) (w := some (350)) f3 (by omega)
  refine ab_aload_n (pc := 20) dX4_init_20 rfl rfl ?_
  refine ab_bipush (pc := 21) (v := nI 64) dX4_init_21 (by decide) ?_
  refine cn_newa (pc := 23) (n' := 352) (kd := 100) (len := 64) dX4_init_23 htt (by omega) (by first | exact Or.inl ⟨rfl, rfl⟩ | exact Or.inr ⟨rfl, rfl⟩) rfl f4 (by decide) ⟨by omega, by omega⟩ rfl ?_
  have f5 := Fr.mono (n' := 352) f4 (by omega)
  refine cn_putR (pc := 25) dX4_init_25 fl_X4_19 (by omega) rfl rfl (fun _ _ _ h => by cases h; first | exact Or.inl rfl | exact Or.inr ⟨rfl, rfl, rfl⟩) ?_
  have f6 := Fr.ur (q := 348) (j := 2) (w := some (351)) f5 (by omega)
  refine ab_aload_n (pc := 28) dX4_init_28 rfl rfl ?_
  refine ab_bipush (pc := 29) (v := nI 24) dX4_init_29 (by decide) ?_
  refine cn_newa (pc := 31) (n' := 353) (kd := 101) (len := 24) dX4_init_31 htt (by omega) (by first | exact Or.inl ⟨rfl, rfl⟩ | exact Or.inr ⟨rfl, rfl⟩) rfl f6 (by decide) ⟨by omega, by omega⟩ rfl ?_
  have f7 := Fr.mono (n' := 353) f6 (by omega)
  refine cn_putR (pc := 33) dX4_init_33 fl_X4_22 (by omega) rfl rfl (fun _ _ _ h => by cases h; first | exact Or.inl rfl | exact Or.inr ⟨rfl, rfl, rfl⟩) ?_
  have f8 := Fr.ur (q := 348) (j := 3) (w := some (352)) f7 (by omega)
  refine ab_aload_n (pc := 36) dX4_init_36 rfl rfl ?_
  refine ab_bipush (pc := 37) (v := nI 24) dX4_init_37 (by decide) ?_
  refine cn_putI (pc := 39) dX4_init_39 fl_X4_25 (by omega) rfl rfl (fun _ _ _ h => by cases h; first | exact Or.inl rfl | exact Or.inr ⟨rfl, rfl, rfl⟩) (by first | exact ab_ok_i _ | exact ab_ok_b (Or.inr rfl)) ?_
  have f9 := Fr.ui (q := 348) (j := 5) (v := nI 24) f8 (by omega)
  exact ab_return (pc := 42) dX4_init_42 rfl ⟨by omega, by omega⟩ (fun _ => by omega) ⟨rfl, rfl⟩
def iX7 (i : Nat → Nat → Int32) : Nat → Nat → Int32 := fl1 i 354 32
def rX7 (r : Nat → Nat → Option Nat) : Nat → Nat → Option Nat := ab_up (ab_up (r) 353 0 (some (354))) 353 1 (some (355))
theorem Fr.x7 {i : Nat → Nat → Int32} {r : Nat → Nat → Option Nat} (hf : Fr 354 i r) : Fr 356 (iX7 i) (rX7 r) := by
  have f1 := Fr.mono (n' := 355) hf (by omega)
  have f2 := Fr.ur (q := 353) (j := 0) (w := some (354)) f1 (by omega)
  have f3 := Fr.mono (n' := 356) f2 (by omega)
  have f4 := Fr.ur (q := 353) (j := 1) (w := some (355)) f3 (by omega)
  exact Fr.fl f4 (by omega) _
set_option maxRecDepth 100000 in
set_option maxHeartbeats 4000000 in
theorem l_X7 {tt : Prop} {i : Nat → Nat → Int32} {r : Nat → Nat → Option Nat} : ∀ (j k : Nat), j + k = 32 → ab_V mX7_init 1 2 64 tt (cQ shX 356 (iX7 i) (rX7 r)) 2 64 22 [some (.ref (353 : Nat)), some (.int (nI k))] [] (sN shX 356 (fl1 i 354 k) (rX7 r)) := by
  intro j
  induction j with
  | zero =>
    intro k hk
    have hk : k = 32 := by omega
    subst hk
    refine ab_iload_n (pc := 22) dX7_init_22 rfl rfl ?_
    refine ab_aload_n (pc := 23) dX7_init_23 rfl rfl ?_
    refine cn_getR (pc := 24) (x := (354 : Nat)) dX7_init_24 fl_X7_9 (by omega) rfl rfl rfl ?_
    refine cn_alen (pc := 27) dX7_init_27 (by omega) (show shX 354 = (100, 32) from rfl) (Or.inl rfl) ?_
    refine ab_icmp_geN (pc := 28) (tgt := 44) dX7_init_28 (by decide) (by decide) (by decide) (fun _ => ?_) (fun z => absurd (Nat.le_refl _) z)
    exact ab_return (pc := 44) dX7_init_44 rfl ⟨by omega, by omega⟩ (fun _ => by omega) ⟨rfl, rfl⟩
  | succ j ih =>
    intro k hk
    refine ab_iload_n (pc := 22) dX7_init_22 rfl rfl ?_
    refine ab_aload_n (pc := 23) dX7_init_23 rfl rfl ?_
    refine cn_getR (pc := 24) (x := (354 : Nat)) dX7_init_24 fl_X7_9 (by omega) rfl rfl rfl ?_
    refine cn_alen (pc := 27) dX7_init_27 (by omega) (show shX 354 = (100, 32) from rfl) (Or.inl rfl) ?_
    refine ab_icmp_geN (pc := 28) (tgt := 44) dX7_init_28 (by decide) (by omega) (by decide) (fun z => absurd z (by omega)) (fun _ => ?_)
    refine ab_aload_n (pc := 31) dX7_init_31 rfl rfl ?_
    refine cn_getR (pc := 32) (x := (354 : Nat)) dX7_init_32 fl_X7_9 (by omega) rfl rfl rfl ?_
    refine ab_iload_n (pc := 35) dX7_init_35 rfl rfl ?_
    refine ab_iconst (pc := 36) (v := -1) dX7_init_36 (by decide) ?_
    refine cn_iast (pc := 37) dX7_init_37 (by omega) (show shX 354 = (100, 32) from rfl) (by omega) (by decide) ?_
    refine ab_iinc (pc := 38) (v := nI (k + 1)) dX7_init_38 rfl (ab_inc k) (Nat.le_of_ble_eq_true rfl) rfl ?_
    refine ab_goto (pc := 41) (tgt := 22) dX7_init_41 (by decide) ?_
    exact ih (k + 1) (by omega)
set_option maxRecDepth 100000 in
set_option maxHeartbeats 4000000 in
theorem n_X7 {tt : Prop} (htt : tt) {i : Nat → Nat → Int32} {r : Nat → Nat → Option Nat} (hf : Fr 354 i r) : ab_Met mX7_init 1 2 64 tt [.ref (353 : Nat)] (sN shX 354 i r) (cQ shX 356 (iX7 i) (rX7 r)) := by
  refine ab_Met.of rfl (Nat.le_of_ble_eq_true rfl) ?_
  show ab_V mX7_init 1 2 64 tt (cQ shX 356 (iX7 i) (rX7 r)) 0 0 0 [some (.ref (353 : Nat)), none] [] (sN shX 354 i r)
  refine ab_aload_n (pc := 0) dX7_init_0 rfl rfl ?_
  refine ab_obj (pc := 1) dX7_init_1 ml_X7_3 (Nat.le_of_ble_eq_true rfl) (by omega) ?_
  refine ab_aload_n (pc := 4) dX7_init_4 rfl rfl ?_
  refine ab_bipush (pc := 5) (v := nI 32) dX7_init_5 (by decide) ?_
  refine cn_newa (pc := 7) (n' := 355) (kd := 100) (len := 32) dX7_init_7 htt (by omega) (by first | exact Or.inl ⟨rfl, rfl⟩ | exact Or.inr ⟨rfl, rfl⟩) rfl hf (by decide) ⟨by omega, by omega⟩ rfl ?_
  have f1 := Fr.mono (n' := 355) hf (by omega)
  refine cn_putR (pc := 9) dX7_init_9 fl_X7_9 (by omega) rfl rfl (fun _ _ _ h => by cases h; first | exact Or.inl rfl | exact Or.inr ⟨rfl, rfl, rfl⟩) ?_
  have f2 := Fr.ur (q := 353) (j := 0) (w := some (354)) f1 (by omega)
  refine ab_aload_n (pc := 12) dX7_init_12 rfl rfl ?_
  refine ab_bipush (pc := 13) (v := nI 32) dX7_init_13 (by decide) ?_
  refine cn_newa (pc := 15) (n' := 356) (kd := 100) (len := 32) dX7_init_15 htt (by omega) (by first | exact Or.inl ⟨rfl, rfl⟩ | exact Or.inr ⟨rfl, rfl⟩) rfl f2 (by decide) ⟨by omega, by omega⟩ rfl ?_
  have f3 := Fr.mono (n' := 356) f2 (by omega)
  refine cn_putR (pc := 17) dX7_init_17 fl_X7_15 (by omega) rfl rfl (fun _ _ _ h => by cases h; first | exact Or.inl rfl | exact Or.inr ⟨rfl, rfl, rfl⟩) ?_
  have f4 := Fr.ur (q := 353) (j := 1) (w := some (355)) f3 (by omega)
  refine ab_iconst (pc := 20) (v := nI 0) dX7_init_20 (by decide) ?_
  refine ab_istore_n (pc := 21) dX7_init_21 rfl (Nat.le_of_ble_eq_true rfl) rfl ?_
  exact l_X7 32 0 rfl
def iX8 (i : Nat → Nat → Int32) : Nat → Nat → Int32 := fl1 i 358 12
def rX8 (r : Nat → Nat → Option Nat) : Nat → Nat → Option Nat := ab_up (ab_up (ab_up (ab_up (r) 357 0 (some (358))) 357 1 (some (359))) 357 2 (some (360))) 357 3 (some (361))
theorem Fr.x8 {i : Nat → Nat → Int32} {r : Nat → Nat → Option Nat} (hf : Fr 358 i r) : Fr 362 (iX8 i) (rX8 r) := by
  have f1 := Fr.mono (n' := 359) hf (by omega)
  have f2 := Fr.ur (q := 357) (j := 0) (w := some (358)) f1 (by omega)
  have f3 := Fr.mono (n' := 360) f2 (by omega)
  have f4 := Fr.ur (q := 357) (j := 1) (w := some (359)) f3 (by omega)
  have f5 := Fr.mono (n' := 361) f4 (by omega)
  have f6 := Fr.ur (q := 357) (j := 2) (w := some (360)) f5 (by omega)
  have f7 := Fr.mono (n' := 362) f6 (by omega)
  have f8 := Fr.ur (q := 357) (j := 3) (w := some (361)) f7 (by omega)
  exact Fr.fl f8 (by omega) _
set_option maxRecDepth 100000 in
set_option maxHeartbeats 4000000 in
theorem l_X8 {tt : Prop} {i : Nat → Nat → Int32} {r : Nat → Nat → Option Nat} : ∀ (j k : Nat), j + k = 12 → ab_V mX8_init 1 4 48 tt (cQ shX 362 (iX8 i) (rX8 r)) 4 48 38 [some (.ref (357 : Nat)), some (.int (nI k))] [] (sN shX 362 (fl1 i 358 k) (rX8 r)) := by
  intro j
  induction j with
  | zero =>
    intro k hk
    have hk : k = 12 := by omega
    subst hk
    refine ab_iload_n (pc := 38) dX8_init_38 rfl rfl ?_
    refine ab_bipush (pc := 39) (v := nI 12) dX8_init_39 (by decide) ?_
    refine ab_icmp_geN (pc := 41) (tgt := 57) dX8_init_41 (by decide) (by decide) (by decide) (fun _ => ?_) (fun z => absurd (Nat.le_refl _) z)
    exact ab_return (pc := 57) dX8_init_57 rfl ⟨by omega, by omega⟩ (fun _ => by omega) ⟨rfl, rfl⟩
  | succ j ih =>
    intro k hk
    refine ab_iload_n (pc := 38) dX8_init_38 rfl rfl ?_
    refine ab_bipush (pc := 39) (v := nI 12) dX8_init_39 (by decide) ?_
    refine ab_icmp_geN (pc := 41) (tgt := 57) dX8_init_41 (by decide) (by omega) (by decide) (fun z => absurd z (by omega)) (fun _ => ?_)
    refine ab_aload_n (pc := 44) dX8_init_44 rfl rfl ?_
    refine cn_getR (pc := 45) (x := (358 : Nat)) dX8_init_45 fl_X8_9 (by omega) rfl rfl rfl ?_
    refine ab_iload_n (pc := 48) dX8_init_48 rfl rfl ?_
    refine ab_iconst (pc := 49) (v := -1) dX8_init_49 (by decide) ?_
    refine cn_iast (pc := 50) dX8_init_50 (by omega) (show shX 358 = (100, 12) from rfl) (by omega) (by decide) ?_
    refine ab_iinc (pc := 51) (v := nI (k + 1)) dX8_init_51 rfl (ab_inc k) (Nat.le_of_ble_eq_true rfl) rfl ?_
    refine ab_goto (pc := 54) (tgt := 38) dX8_init_54 (by decide) ?_
    exact ih (k + 1) (by omega)
set_option maxRecDepth 100000 in
set_option maxHeartbeats 4000000 in
theorem n_X8 {tt : Prop} (htt : tt) {i : Nat → Nat → Int32} {r : Nat → Nat → Option Nat} (hf : Fr 358 i r) : ab_Met mX8_init 1 4 48 tt [.ref (357 : Nat)] (sN shX 358 i r) (cQ shX 362 (iX8 i) (rX8 r)) := by
  refine ab_Met.of rfl (Nat.le_of_ble_eq_true rfl) ?_
  show ab_V mX8_init 1 4 48 tt (cQ shX 362 (iX8 i) (rX8 r)) 0 0 0 [some (.ref (357 : Nat)), none] [] (sN shX 358 i r)
  refine ab_aload_n (pc := 0) dX8_init_0 rfl rfl ?_
  refine ab_obj (pc := 1) dX8_init_1 ml_X8_3 (Nat.le_of_ble_eq_true rfl) (by omega) ?_
  refine ab_aload_n (pc := 4) dX8_init_4 rfl rfl ?_
  refine ab_bipush (pc := 5) (v := nI 12) dX8_init_5 (by decide) ?_
  refine cn_newa (pc := 7) (n' := 359) (kd := 100) (len := 12) dX8_init_7 htt (by omega) (by first | exact Or.inl ⟨rfl, rfl⟩ | exact Or.inr ⟨rfl, rfl⟩) rfl hf (by decide) ⟨by omega, by omega⟩ rfl ?_
  have f1 := Fr.mono (n' := 359) hf (by omega)
  refine cn_putR (pc := 9) dX8_init_9 fl_X8_9 (by omega) rfl rfl (fun _ _ _ h => by cases h; first | exact Or.inl rfl | exact Or.inr ⟨rfl, rfl, rfl⟩) ?_
  have f2 := Fr.ur (q := 357) (j := 0) (w := some (358)) f1 (by omega)
  refine ab_aload_n (pc := 12) dX8_init_12 rfl rfl ?_
  refine ab_bipush (pc := 13) (v := nI 12) dX8_init_13 (by decide) ?_
  refine cn_newa (pc := 15) (n' := 360) (kd := 100) (len := 12) dX8_init_15 htt (by omega) (by first | exact Or.inl ⟨rfl, rfl⟩ | exact Or.inr ⟨rfl, rfl⟩) rfl f2 (by decide) ⟨by omega, by omega⟩ rfl ?_
  have f3 := Fr.mono (n' := 360) f2 (by omega)
  refine cn_putR (pc := 17) dX8_init_17 fl_X8_15 (by omega) rfl rfl (fun _ _ _ h => by cases h; first | exact Or.inl rfl | exact Or.inr ⟨rfl, rfl, rfl⟩) ?_
  have f4 := Fr.ur (q := 357) (j := 1) (w := some (359)) f3 (by omega)
  refine ab_aload_n (pc := 20) dX8_init_20 rfl rfl ?_
  refine ab_bipush (pc := 21) (v := nI 12) dX8_init_21 (by decide) ?_
  refine cn_newa (pc := 23) (n' := 361) (kd := 101) (len := 12) dX8_init_23 htt (by omega) (by first | exact Or.inl ⟨rfl, rfl⟩ | exact Or.inr ⟨rfl, rfl⟩) rfl f4 (by decide) ⟨by omega, by omega⟩ rfl ?_
  have f5 := Fr.mono (n' := 361) f4 (by omega)
  refine cn_putR (pc := 25) dX8_init_25 fl_X8_18 (by omega) rfl rfl (fun _ _ _ h => by cases h; first | exact Or.inl rfl | exact Or.inr ⟨rfl, rfl, rfl⟩) ?_
  have f6 := Fr.ur (q := 357) (j := 2) (w := some (360)) f5 (by omega)
  refine ab_aload_n (pc := 28) dX8_init_28 rfl rfl ?_
  refine ab_bipush (pc := 29) (v := nI 12) dX8_init_29 (by decide) ?_
  refine cn_newa (pc := 31) (n' := 362) (kd := 101) (len := 12) dX8_init_31 htt (by omega) (by first | exact Or.inl ⟨rfl, rfl⟩ | exact Or.inr ⟨rfl, rfl⟩) rfl f6 (by decide) ⟨by omega, by omega⟩ rfl ?_
  have f7 := Fr.mono (n' := 362) f6 (by omega)
  refine cn_putR (pc := 33) dX8_init_33 fl_X8_22 (by omega) rfl rfl (fun _ _ _ h => by cases h; first | exact Or.inl rfl | exact Or.inr ⟨rfl, rfl, rfl⟩) ?_
  have f8 := Fr.ur (q := 357) (j := 3) (w := some (361)) f7 (by omega)
  refine ab_iconst (pc := 36) (v := nI 0) dX8_init_36 (by decide) ?_
  refine ab_istore_n (pc := 37) dX8_init_37 rfl (Nat.le_of_ble_eq_true rfl) rfl ?_
  exact l_X8 12 0 rfl
def iX9 (i : Nat → Nat → Int32) : Nat → Nat → Int32 := i
def rX9 (r : Nat → Nat → Option Nat) : Nat → Nat → Option Nat := ab_up (ab_up (ab_up (r) 362 0 (some (363))) 362 1 (some (364))) 362 2 (some (365))
theorem Fr.x9 {i : Nat → Nat → Int32} {r : Nat → Nat → Option Nat} (hf : Fr 363 i r) : Fr 366 (iX9 i) (rX9 r) := by
  have f1 := Fr.mono (n' := 364) hf (by omega)
  have f2 := Fr.ur (q := 362) (j := 0) (w := some (363)) f1 (by omega)
  have f3 := Fr.mono (n' := 365) f2 (by omega)
  have f4 := Fr.ur (q := 362) (j := 1) (w := some (364)) f3 (by omega)
  have f5 := Fr.mono (n' := 366) f4 (by omega)
  have f6 := Fr.ur (q := 362) (j := 2) (w := some (365)) f5 (by omega)
  exact f6
set_option maxRecDepth 100000 in
set_option maxHeartbeats 4000000 in
theorem n_X9 {tt : Prop} (htt : tt) {i : Nat → Nat → Int32} {r : Nat → Nat → Option Nat} (hf : Fr 363 i r) : ab_Met mX9_init 1 3 36 tt [.ref (362 : Nat)] (sN shX 363 i r) (cQ shX 366 (iX9 i) (rX9 r)) := by
  refine ab_Met.of rfl (Nat.le_of_ble_eq_true rfl) ?_
  show ab_V mX9_init 1 3 36 tt (cQ shX 366 (iX9 i) (rX9 r)) 0 0 0 [some (.ref (362 : Nat))] [] (sN shX 363 i r)
  refine ab_aload_n (pc := 0) dX9_init_0 rfl rfl ?_
  refine ab_obj (pc := 1) dX9_init_1 ml_X9_3 (Nat.le_of_ble_eq_true rfl) (by omega) ?_
  refine ab_aload_n (pc := 4) dX9_init_4 rfl rfl ?_
  refine ab_bipush (pc := 5) (v := nI 12) dX9_init_5 (by decide) ?_
  refine cn_newa (pc := 7) (n' := 364) (kd := 101) (len := 12) dX9_init_7 htt (by omega) (by first | exact Or.inl ⟨rfl, rfl⟩ | exact Or.inr ⟨rfl, rfl⟩) rfl hf (by decide) ⟨by omega, by omega⟩ rfl ?_
  have f1 := Fr.mono (n' := 364) hf (by omega)
  refine cn_putR (pc := 9) dX9_init_9 fl_X9_9 (by omega) rfl rfl (fun _ _ _ h => by cases h; first | exact Or.inl rfl | exact Or.inr ⟨rfl, rfl, rfl⟩) ?_
  have f2 := Fr.ur (q := 362) (j := 0) (w := some (363)) f1 (by omega)
  refine ab_aload_n (pc := 12) dX9_init_12 rfl rfl ?_
  refine ab_bipush (pc := 13) (v := nI 12) dX9_init_13 (by decide) ?_
  refine cn_newa (pc := 15) (n' := 365) (kd := 100) (len := 12) dX9_init_15 htt (by omega) (by first | exact Or.inl ⟨rfl, rfl⟩ | exact Or.inr ⟨rfl, rfl⟩) rfl f2 (by decide) ⟨by omega, by omega⟩ rfl ?_
  have f3 := Fr.mono (n' := 365) f2 (by omega)
  refine cn_putR (pc := 17) dX9_init_17 fl_X9_15 (by omega) rfl rfl (fun _ _ _ h => by cases h; first | exact Or.inl rfl | exact Or.inr ⟨rfl, rfl, rfl⟩) ?_
  have f4 := Fr.ur (q := 362) (j := 1) (w := some (364)) f3 (by omega)
  refine ab_aload_n (pc := 20) dX9_init_20 rfl rfl ?_
  refine ab_bipush (pc := 21) (v := nI 12) dX9_init_21 (by decide) ?_
  refine cn_newa (pc := 23) (n' := 366) (kd := 100) (len := 12) dX9_init_23 htt (by omega) (by first | exact Or.inl ⟨rfl, rfl⟩ | exact Or.inr ⟨rfl, rfl⟩) rfl f4 (by decide) ⟨by omega, by omega⟩ rfl ?_
  have f5 := Fr.mono (n' := 366) f4 (by omega)
  refine cn_putR (pc := 25) dX9_init_25 fl_X9_19 (by omega) rfl rfl (fun _ _ _ h => by cases h; first | exact Or.inl rfl | exact Or.inr ⟨rfl, rfl, rfl⟩) ?_
  have f6 := Fr.ur (q := 362) (j := 2) (w := some (365)) f5 (by omega)
  exact ab_return (pc := 28) dX9_init_28 rfl ⟨by omega, by omega⟩ (fun _ => by omega) ⟨rfl, rfl⟩
def iX3 (i : Nat → Nat → Int32) : Nat → Nat → Int32 := ab_up (iX7 (iX4 (i))) 347 4 (nI 1)
def rX3 (r : Nat → Nat → Option Nat) : Nat → Nat → Option Nat := ab_up (ab_up (rX7 (ab_up (rX4 (r)) 347 0 (some (348)))) 347 1 (some (353))) 347 3 (some (356))
theorem Fr.x3 {i : Nat → Nat → Int32} {r : Nat → Nat → Option Nat} (hf : Fr 348 i r) : Fr 357 (iX3 i) (rX3 r) := by
  have f1 := Fr.mono (n' := 349) hf (by omega)
  have f2 := Fr.x4 f1
  have f3 := Fr.ur (q := 347) (j := 0) (w := some (348)) f2 (by omega)
  have f4 := Fr.mono (n' := 354) f3 (by omega)
  have f5 := Fr.x7 f4
  have f6 := Fr.ur (q := 347) (j := 1) (w := some (353)) f5 (by omega)
  have f7 := Fr.mono (n' := 357) f6 (by omega)
  have f8 := Fr.ur (q := 347) (j := 3) (w := some (356)) f7 (by omega)
  have f9 := Fr.ui (q := 347) (j := 4) (v := nI 1) f8 (by omega)
  exact f9
set_option maxRecDepth 100000 in
set_option maxHeartbeats 4000000 in
theorem n_X3 {tt : Prop} (htt : tt) {i : Nat → Nat → Int32} {r : Nat → Nat → Option Nat} (hf : Fr 348 i r) : ab_Met mX3_init 2 9 200 tt [.ref (347 : Nat)] (sN shX 348 i r) (cQ shX 357 (iX3 i) (rX3 r)) := by
  refine ab_Met.of rfl (Nat.le_of_ble_eq_true rfl) ?_
  show ab_V mX3_init 2 9 200 tt (cQ shX 357 (iX3 i) (rX3 r)) 0 0 0 [some (.ref (347 : Nat))] [] (sN shX 348 i r)
  refine ab_aload_n (pc := 0) dX3_init_0 rfl rfl ?_
  refine ab_obj (pc := 1) dX3_init_1 ml_X3_3 (Nat.le_of_ble_eq_true rfl) (by omega) ?_
  refine ab_aload_n (pc := 4) dX3_init_4 rfl rfl ?_
  refine cn_new (pc := 5) (n' := 349) (ci := 4) dX3_init_5 htt (by omega) cl_X3_9 rfl rfl hf ⟨by omega, by omega⟩ rfl ?_
  have f1 := Fr.mono (n' := 349) hf (by omega)
  refine ab_dup (pc := 8) dX3_init_8 rfl ?_
  refine cn_invN (pc := 9) (N := mX4_init) dX3_init_9 nn_X3_11 fi_X4_init (Nat.le_of_ble_eq_true rfl) (by omega) ⟨by omega, by omega⟩ (n_X4 htt f1) ?_
  have f2 := Fr.x4 f1
  refine cn_putR (pc := 12) dX3_init_12 fl_X3_12 (by omega) rfl rfl (fun _ _ _ h => by cases h; first | exact Or.inl rfl | exact Or.inr ⟨rfl, rfl, rfl⟩) ?_
  have f3 := Fr.ur (q := 347) (j := 0) (w := some (348)) f2 (by omega)
  refine ab_aload_n (pc := 15) dX3_init_15 rfl rfl ?_
  refine cn_new (pc := 16) (n' := 354) (ci := 7) dX3_init_16 htt (by omega) cl_X3_18 rfl rfl f3 ⟨by omega, by omega⟩ rfl ?_
  have f4 := Fr.mono (n' := 354) f3 (by omega)
  refine ab_dup (pc := 19) dX3_init_19 rfl ?_
  refine cn_inv (pc := 20) (N := mX7_init) dX3_init_20 ml_X3_20 fi_X7_init (Nat.le_of_ble_eq_true rfl) (by omega) ⟨by omega, by omega⟩ (n_X7 htt f4) ?_
  have f5 := Fr.x7 f4
  refine cn_putR (pc := 23) dX3_init_23 fl_X3_21 (by omega) rfl rfl (fun _ _ _ h => by cases h; first | exact Or.inl rfl | exact Or.inr ⟨rfl, rfl, rfl⟩) ?_
  have f6 := Fr.ur (q := 347) (j := 1) (w := some (353)) f5 (by omega)
  refine ab_aload_n (pc := 26) dX3_init_26 rfl rfl ?_
  refine ab_bipush (pc := 27) (v := nI 8) dX3_init_27 (by decide) ?_
  refine cn_newa (pc := 29) (n' := 357) (kd := 100) (len := 8) dX3_init_29 htt (by omega) (by first | exact Or.inl ⟨rfl, rfl⟩ | exact Or.inr ⟨rfl, rfl⟩) rfl f6 (by decide) ⟨by omega, by omega⟩ rfl ?_
  have f7 := Fr.mono (n' := 357) f6 (by omega)
  refine cn_putR (pc := 31) dX3_init_31 fl_X3_25 (by omega) rfl rfl (fun _ _ _ h => by cases h; first | exact Or.inl rfl | exact Or.inr ⟨rfl, rfl, rfl⟩) ?_
  have f8 := Fr.ur (q := 347) (j := 3) (w := some (356)) f7 (by omega)
  refine ab_aload_n (pc := 34) dX3_init_34 rfl rfl ?_
  refine ab_iconst (pc := 35) (v := nI 1) dX3_init_35 (by decide) ?_
  refine cn_putI (pc := 36) dX3_init_36 fl_X3_29 (by omega) rfl rfl (fun _ _ _ h => by cases h; first | exact Or.inl rfl | exact Or.inr ⟨rfl, rfl, rfl⟩) (by first | exact ab_ok_i _ | exact ab_ok_b (Or.inr rfl)) ?_
  have f9 := Fr.ui (q := 347) (j := 4) (v := nI 1) f8 (by omega)
  exact ab_return (pc := 39) dX3_init_39 rfl ⟨by omega, by omega⟩ (fun _ => by omega) ⟨rfl, rfl⟩
def iX10 (i : Nat → Nat → Int32) : Nat → Nat → Int32 := ab_up (ab_up (ab_up (iX9 (iX8 (iX3 (iX2 (iX5 (coI (i) 12)))))) 0 6 (nI 0)) 0 7 (nI 0)) 0 8 (nI 0)
def rX10 (r : Nat → Nat → Option Nat) : Nat → Nat → Option Nat := ab_up (rX9 (ab_up (rX8 (ab_up (rX3 (ab_up (rX2 (ab_up (rX5 (ab_up (coR (r) 12) 0 0 (some (1)))) 0 1 (some (343)))) 0 2 (some (344)))) 0 3 (some (347)))) 0 4 (some (357)))) 0 5 (some (362))
theorem Fr.x10 {i : Nat → Nat → Int32} {r : Nat → Nat → Option Nat} (hf : Fr 1 i r) : Fr 366 (iX10 i) (rX10 r) := by
  have f1 := Fr.mono (n' := 2) hf (by omega)
  have f2 := Fr.mono (n' := 343) (Fr.co f1 12) (by omega)
  have f3 := Fr.ur (q := 0) (j := 0) (w := some (1)) f2 (by omega)
  have f4 := Fr.mono (n' := 344) f3 (by omega)
  have f5 := Fr.x5 f4
  have f6 := Fr.ur (q := 0) (j := 1) (w := some (343)) f5 (by omega)
  have f7 := Fr.mono (n' := 345) f6 (by omega)
  have f8 := Fr.x2 f7
  have f9 := Fr.ur (q := 0) (j := 2) (w := some (344)) f8 (by omega)
  have f10 := Fr.mono (n' := 348) f9 (by omega)
  have f11 := Fr.x3 f10
  have f12 := Fr.ur (q := 0) (j := 3) (w := some (347)) f11 (by omega)
  have f13 := Fr.mono (n' := 358) f12 (by omega)
  have f14 := Fr.x8 f13
  have f15 := Fr.ur (q := 0) (j := 4) (w := some (357)) f14 (by omega)
  have f16 := Fr.mono (n' := 363) f15 (by omega)
  have f17 := Fr.x9 f16
  have f18 := Fr.ur (q := 0) (j := 5) (w := some (362)) f17 (by omega)
  have f19 := Fr.ui (q := 0) (j := 6) (v := nI 0) f18 (by omega)
  have f20 := Fr.ui (q := 0) (j := 7) (v := nI 0) f19 (by omega)
  have f21 := Fr.ui (q := 0) (j := 8) (v := nI 0) f20 (by omega)
  exact f21
set_option maxRecDepth 100000 in
set_option maxHeartbeats 4000000 in
theorem n_X10 {tt : Prop} (htt : tt) {i : Nat → Nat → Int32} {r : Nat → Nat → Option Nat} (hf : Fr 1 i r) : ab_Met mX10_init 4 365 3238 tt [.ref (0 : Nat)] (sN shX 1 i r) (cQ shX 366 (iX10 i) (rX10 r)) := by
  refine ab_Met.of rfl (Nat.le_of_ble_eq_true rfl) ?_
  show ab_V mX10_init 4 365 3238 tt (cQ shX 366 (iX10 i) (rX10 r)) 0 0 0 [some (.ref (0 : Nat))] [] (sN shX 1 i r)
  refine ab_aload_n (pc := 0) dX10_init_0 rfl rfl ?_
  refine ab_obj (pc := 1) dX10_init_1 ml_X10_3 (Nat.le_of_ble_eq_true rfl) (by omega) ?_
  refine ab_aload_n (pc := 4) dX10_init_4 rfl rfl ?_
  refine cn_new (pc := 5) (n' := 2) (ci := 1) dX10_init_5 htt (by omega) cl_X10_9 rfl rfl hf ⟨by omega, by omega⟩ rfl ?_
  have f1 := Fr.mono (n' := 2) hf (by omega)
  refine ab_dup (pc := 8) dX10_init_8 rfl ?_
  refine cn_inv (pc := 9) (N := mX1_init) dX10_init_9 ml_X10_11 fi_X1_init (Nat.le_of_ble_eq_true rfl) (by omega) ⟨by omega, by omega⟩ (n_X1 htt f1) ?_
  have f2 := Fr.mono (n' := 343) (Fr.co f1 12) (by omega)
  refine cn_putR (pc := 12) dX10_init_12 fl_X10_12 (by omega) rfl rfl (fun _ _ _ h => by cases h; first | exact Or.inl rfl | exact Or.inr ⟨rfl, rfl, rfl⟩) ?_
  have f3 := Fr.ur (q := 0) (j := 0) (w := some (1)) f2 (by omega)
  refine ab_aload_n (pc := 15) dX10_init_15 rfl rfl ?_
  refine cn_new (pc := 16) (n' := 344) (ci := 5) dX10_init_16 htt (by omega) cl_X10_16 rfl rfl f3 ⟨by omega, by omega⟩ rfl ?_
  have f4 := Fr.mono (n' := 344) f3 (by omega)
  refine ab_dup (pc := 19) dX10_init_19 rfl ?_
  refine cn_invN (pc := 20) (N := mX5_init) dX10_init_20 nn_X10_18 fi_X5_init (Nat.le_of_ble_eq_true rfl) (by omega) ⟨by omega, by omega⟩ (n_X5 htt f4) ?_
  have f5 := Fr.x5 f4
  refine cn_putR (pc := 23) dX10_init_23 fl_X10_19 (by omega) rfl rfl (fun _ _ _ h => by cases h; first | exact Or.inl rfl | exact Or.inr ⟨rfl, rfl, rfl⟩) ?_
  have f6 := Fr.ur (q := 0) (j := 1) (w := some (343)) f5 (by omega)
  refine ab_aload_n (pc := 26) dX10_init_26 rfl rfl ?_
  refine cn_new (pc := 27) (n' := 345) (ci := 2) dX10_init_27 htt (by omega) cl_X10_23 rfl rfl f6 ⟨by omega, by omega⟩ rfl ?_
  have f7 := Fr.mono (n' := 345) f6 (by omega)
  refine ab_dup (pc := 30) dX10_init_30 rfl ?_
  refine cn_invN (pc := 31) (N := mX2_init) dX10_init_31 nn_X10_25 fi_X2_init (Nat.le_of_ble_eq_true rfl) (by omega) ⟨by omega, by omega⟩ (n_X2 htt f7) ?_
  have f8 := Fr.x2 f7
  refine cn_putR (pc := 34) dX10_init_34 fl_X10_26 (by omega) rfl rfl (fun _ _ _ h => by cases h; first | exact Or.inl rfl | exact Or.inr ⟨rfl, rfl, rfl⟩) ?_
  have f9 := Fr.ur (q := 0) (j := 2) (w := some (344)) f8 (by omega)
  refine ab_aload_n (pc := 37) dX10_init_37 rfl rfl ?_
  refine cn_new (pc := 38) (n' := 348) (ci := 3) dX10_init_38 htt (by omega) cl_X10_30 rfl rfl f9 ⟨by omega, by omega⟩ rfl ?_
  have f10 := Fr.mono (n' := 348) f9 (by omega)
  refine ab_dup (pc := 41) dX10_init_41 rfl ?_
  refine cn_invN (pc := 42) (N := mX3_init) dX10_init_42 nn_X10_32 fi_X3_init (Nat.le_of_ble_eq_true rfl) (by omega) ⟨by omega, by omega⟩ (n_X3 htt f10) ?_
  have f11 := Fr.x3 f10
  refine cn_putR (pc := 45) dX10_init_45 fl_X10_33 (by omega) rfl rfl (fun _ _ _ h => by cases h; first | exact Or.inl rfl | exact Or.inr ⟨rfl, rfl, rfl⟩) ?_
  have f12 := Fr.ur (q := 0) (j := 3) (w := some (347)) f11 (by omega)
  refine ab_aload_n (pc := 48) dX10_init_48 rfl rfl ?_
  refine cn_new (pc := 49) (n' := 358) (ci := 8) dX10_init_49 htt (by omega) cl_X10_37 rfl rfl f12 ⟨by omega, by omega⟩ rfl ?_
  have f13 := Fr.mono (n' := 358) f12 (by omega)
  refine ab_dup (pc := 52) dX10_init_52 rfl ?_
  refine cn_inv (pc := 53) (N := mX8_init) dX10_init_53 ml_X10_39 fi_X8_init (Nat.le_of_ble_eq_true rfl) (by omega) ⟨by omega, by omega⟩ (n_X8 htt f13) ?_
  have f14 := Fr.x8 f13
  refine cn_putR (pc := 56) dX10_init_56 fl_X10_40 (by omega) rfl rfl (fun _ _ _ h => by cases h; first | exact Or.inl rfl | exact Or.inr ⟨rfl, rfl, rfl⟩) ?_
  have f15 := Fr.ur (q := 0) (j := 4) (w := some (357)) f14 (by omega)
  refine ab_aload_n (pc := 59) dX10_init_59 rfl rfl ?_
  refine cn_new (pc := 60) (n' := 363) (ci := 9) dX10_init_60 htt (by omega) cl_X10_44 rfl rfl f15 ⟨by omega, by omega⟩ rfl ?_
  have f16 := Fr.mono (n' := 363) f15 (by omega)
  refine ab_dup (pc := 63) dX10_init_63 rfl ?_
  refine cn_invN (pc := 64) (N := mX9_init) dX10_init_64 nn_X10_46 fi_X9_init (Nat.le_of_ble_eq_true rfl) (by omega) ⟨by omega, by omega⟩ (n_X9 htt f16) ?_
  have f17 := Fr.x9 f16
  refine cn_putR (pc := 67) dX10_init_67 fl_X10_47 (by omega) rfl rfl (fun _ _ _ h => by cases h; first | exact Or.inl rfl | exact Or.inr ⟨rfl, rfl, rfl⟩) ?_
  have f18 := Fr.ur (q := 0) (j := 5) (w := some (362)) f17 (by omega)
  refine ab_aload_n (pc := 70) dX10_init_70 rfl rfl ?_
  refine ab_iconst (pc := 71) (v := nI 0) dX10_init_71 (by decide) ?_
  refine cn_putI (pc := 72) dX10_init_72 fl_X10_51 (by omega) rfl rfl (fun _ _ _ h => by cases h; first | exact Or.inl rfl | exact Or.inr ⟨rfl, rfl, rfl⟩) (by first | exact ab_ok_i _ | exact ab_ok_b (Or.inr rfl)) ?_
  have f19 := Fr.ui (q := 0) (j := 6) (v := nI 0) f18 (by omega)
  refine ab_aload_n (pc := 75) dX10_init_75 rfl rfl ?_
  refine ab_iconst (pc := 76) (v := nI 0) dX10_init_76 (by decide) ?_
  refine cn_putI (pc := 77) dX10_init_77 fl_X10_55 (by omega) rfl rfl (fun _ _ _ h => by cases h; first | exact Or.inl rfl | exact Or.inr ⟨rfl, rfl, rfl⟩) (by first | exact ab_ok_i _ | exact ab_ok_b (Or.inr rfl)) ?_
  have f20 := Fr.ui (q := 0) (j := 7) (v := nI 0) f19 (by omega)
  refine ab_aload_n (pc := 80) dX10_init_80 rfl rfl ?_
  refine ab_iconst (pc := 81) (v := nI 0) dX10_init_81 (by decide) ?_
  refine cn_putI (pc := 82) dX10_init_82 fl_X10_58 (by omega) rfl rfl (fun _ _ _ h => by cases h; first | exact Or.inl rfl | exact Or.inr ⟨rfl, rfl, rfl⟩) (by first | exact ab_ok_i _ | exact ab_ok_b (Or.inr rfl)) ?_
  have f21 := Fr.ui (q := 0) (j := 8) (v := nI 0) f20 (by omega)
  exact ab_return (pc := 85) dX10_init_85 rfl ⟨by omega, by omega⟩ (fun _ => by omega) ⟨rfl, rfl⟩
