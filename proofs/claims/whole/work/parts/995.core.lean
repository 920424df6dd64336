/-! THE CLASS's CONSTRUCTORS -/
def msI (i : Nat → Nat → Int32) (q : Nat) : Nat → Nat → Int32 := ab_up (ab_up i q 6 (nI 0)) q 7 (-1)
def msR (r : Nat → Nat → Option Nat) (q : Nat) : Nat → Nat → Option Nat := ab_up r q 0 (some (q + 1))
theorem Fr.ms {n q : Nat} {i : Nat → Nat → Int32} {r : Nat → Nat → Option Nat} (h : Fr n i r) (hq : q < n) : Fr n (msI i q) (msR r q) := ((h.ui hq).ui hq).ur hq
set_option maxRecDepth 100000 in
set_option maxHeartbeats 4000000 in
theorem n_X6 {tt : Prop} (htt : tt) {q : Nat} {i : Nat → Nat → Int32} {r : Nat → Nat → Option Nat} (hs : shX q = (6, 8)) (hs1 : shX (q + 1) = (100, 8)) (hq : q < 366) (hf : Fr (q + 1) i r) : ab_Met mX6_init 1 1 8 tt [.ref q] (sN shX (q + 1) i r) (cQ shX (q + 2) (msI i q) (msR r q)) := by
  refine ab_Met.of rfl (Nat.le_of_ble_eq_true rfl) ?_
  show ab_V mX6_init 1 1 8 tt (cQ shX (q + 2) (msI i q) (msR r q)) 0 0 0 [some (.ref q)] [] (sN shX (q + 1) i r)
  refine ab_aload_n (pc := 0) dX6_init_0 rfl rfl ?_
  refine ab_obj (pc := 1) dX6_init_1 ml_X6_3 (Nat.le_of_ble_eq_true rfl) (by omega) ?_
  refine ab_aload_n (pc := 4) dX6_init_4 rfl rfl ?_
  refine ab_bipush (pc := 5) (v := nI 8) dX6_init_5 (by decide) ?_
  refine cn_newa (pc := 7) (n' := q + 2) (kd := 100) (len := 8) dX6_init_7 htt (by omega) (by first | exact Or.inl ⟨rfl, rfl⟩ | exact Or.inr ⟨rfl, rfl⟩) (by first | assumption | rfl) hf (by decide) ⟨by omega, by omega⟩ rfl ?_
  have f1 := Fr.mono (n' := q + 2) hf (by omega)
  refine cn_putR (pc := 9) dX6_init_9 fl_X6_9 (by omega) (by first | assumption | rfl) rfl (fun _ _ _ h => by cases h; first | exact Or.inl rfl | exact Or.inr ⟨rfl, rfl, rfl⟩) ?_
  have f2 := Fr.ur (q := q) (j := 0) (w := some (q + 1)) f1 (by omega)
  refine ab_aload_n (pc := 12) dX6_init_12 rfl rfl ?_
  refine ab_iconst (pc := 13) (v := nI 0) dX6_init_13 (by decide) ?_
  refine cn_putI (pc := 14) dX6_init_14 fl_X6_15 (by omega) (by first | assumption | rfl) rfl (fun _ _ _ h => by cases h; first | exact Or.inl rfl | exact Or.inr ⟨rfl, rfl, rfl⟩) (by first | exact ab_ok_i _ | exact ab_ok_b (Or.inr rfl)) ?_
  have f3 := Fr.ui (q := q) (j := 6) (v := nI 0) f2 (by omega)
  refine ab_aload_n (pc := 17) dX6_init_17 rfl rfl ?_
  refine ab_iconst (pc := 18) (v := (-1)) dX6_init_18 (by decide) ?_
  refine cn_putI (pc := 19) dX6_init_19 fl_X6_19 (by omega) (by first | assumption | rfl) rfl (fun _ _ _ h => by cases h; first | exact Or.inl rfl | exact Or.inr ⟨rfl, rfl, rfl⟩) (by first | exact ab_ok_i _ | exact ab_ok_b (Or.inr rfl)) ?_
  have f4 := Fr.ui (q := q) (j := 7) (v := (-1)) f3 (by omega)
  exact ab_return (pc := 22) dX6_init_22 rfl ⟨by omega, by omega⟩ (fun _ => by omega) ⟨rfl, rfl⟩
def boI (i : Nat → Nat → Int32) (b : Nat) : Nat → Nat → Nat → Int32
  | 0 => i
  | k + 1 => msI (boI i b k) (b + 2 + 2 * k)
def boR (r : Nat → Nat → Option Nat) (b : Nat) : Nat → Nat → Nat → Option Nat
  | 0 => ab_up r b 0 (some (b + 1))
  | k + 1 => ab_up (msR (boR r b k) (b + 2 + 2 * k)) (b + 1) k (some (b + 2 + 2 * k))
theorem Fr.bo {b : Nat} {i : Nat → Nat → Int32} {r : Nat → Nat → Option Nat} (h : Fr (b + 1) i r) : ∀ k, Fr (b + 2 + 2 * k) (boI i b k) (boR r b k)
  | 0 => (Fr.mono h (by omega)).ur (by omega)
  | k + 1 => ((Fr.mono (Fr.bo h k) (by omega)).ms (by omega)).ur (by omega)
theorem boR_row {b : Nat} {r : Nat → Nat → Option Nat} : ∀ k, boR r b k b 0 = some (b + 1)
  | 0 => ab_up_eq
  | k + 1 => by rw [boR, msR, ab_up_ne (by omega), ab_up_ne (by omega)]; exact boR_row k
/-- a box at b: its row behind it, then its messages -/
def isBo (b : Nat) : Prop := b + 26 < 366 ∧ shX b = (0, 2) ∧ shX (b + 1) = (102, 12) ∧ ∀ k, k < 12 → shX (b + 2 + 2 * k) = (6, 8) ∧ shX (b + 2 + 2 * k + 1) = (100, 8)
set_option maxRecDepth 100000 in
set_option maxHeartbeats 4000000 in
theorem l_X0 {tt : Prop} (htt : tt) {b : Nat} {i : Nat → Nat → Int32} {r : Nat → Nat → Option Nat} (hb : isBo b) (hf : Fr (b + 1) i r) : ∀ (j k : Nat), j + k = 12 → ab_V mX0_init 2 25 204 tt (cQ shX (b + 26) (ab_up (boI i b 12) b 1 (nI 0)) (boR r b 12)) (1 + 2 * k) (12 + 16 * k) 15 [some (.ref b), some (.int (nI k))] [] (sN shX (b + 2 + 2 * k) (boI i b k) (boR r b k)) := by
  intro j
  induction j with
  | zero =>
    intro k hk
    have hk : k = 12 := by omega
    subst hk
    refine ab_iload_n (pc := 15) dX0_init_15 rfl rfl ?_
    refine ab_bipush (pc := 16) (v := nI 12) dX0_init_16 (by decide) ?_
    refine ab_icmp_geN (pc := 18) (tgt := 40) dX0_init_18 (by decide) (by decide) (by decide) (fun _ => ?_) (fun z => absurd (Nat.le_refl 12) z)
    refine ab_aload_n (pc := 40) dX0_init_40 rfl rfl ?_
    refine ab_iconst (pc := 41) (v := nI 0) dX0_init_41 (by decide) ?_
    refine cn_putI (pc := 42) dX0_init_42 fl_X0_18 (by omega) hb.2.1 rfl (fun _ _ _ h => by cases h; first | exact Or.inl rfl | exact Or.inr ⟨rfl, rfl, rfl⟩) (ab_ok_i _) ?_
    exact ab_return (pc := 45) dX0_init_45 rfl ⟨by omega, by omega⟩ (fun _ => by omega) ⟨rfl, rfl⟩
  | succ j ih =>
    intro k hk
    obtain ⟨s1, s2⟩ := hb.2.2.2 k (by omega)
    have hlt := hb.1
    refine ab_iload_n (pc := 15) dX0_init_15 rfl rfl ?_
    refine ab_bipush (pc := 16) (v := nI 12) dX0_init_16 (by decide) ?_
    refine ab_icmp_geN (pc := 18) (tgt := 40) dX0_init_18 (by decide) (by omega) (by decide) (fun z => absurd z (by omega)) (fun _ => ?_)
    refine ab_aload_n (pc := 21) dX0_init_21 rfl rfl ?_
    refine cn_getR (pc := 22) (x := b + 1) dX0_init_22 fl_X0_11 (by omega) hb.2.1 rfl (boR_row k) ?_
    refine ab_iload_n (pc := 25) dX0_init_25 rfl rfl ?_
    refine cn_new (pc := 26) (n' := b + 2 + 2 * k + 1) (ci := 6) dX0_init_26 htt (by omega) cl_X0_9 rfl s1 (Fr.bo hf k) ⟨by omega, by omega⟩ rfl ?_
    refine ab_dup (pc := 29) dX0_init_29 rfl ?_
    refine cn_invN (pc := 30) (N := mX6_init) dX0_init_30 nn_X0_17 fi_X6_init (Nat.le_of_ble_eq_true rfl) (by omega) ⟨by omega, by omega⟩ (n_X6 htt s1 s2 (by omega) ((Fr.bo hf k).mono (by omega))) ?_
    refine cn_aast (pc := 33) (ck := 6) dX0_init_33 (by omega) hb.2.2.1 (Or.inl ⟨rfl, rfl⟩) (by omega) (by decide) (by omega) s1 ?_
    refine ab_iinc (pc := 34) (v := nI (k + 1)) dX0_init_34 rfl (ab_inc k) (Nat.le_of_ble_eq_true rfl) rfl ?_
    refine ab_goto (pc := 37) (tgt := 15) dX0_init_37 (by decide) ?_
    exact cn_at (by omega) (by omega) (by omega) (ih (k + 1) (by omega))
set_option maxRecDepth 100000 in
set_option maxHeartbeats 4000000 in
theorem n_X0 {tt : Prop} (htt : tt) {b : Nat} {i : Nat → Nat → Int32} {r : Nat → Nat → Option Nat} (hb : isBo b) (hf : Fr (b + 1) i r) : ab_Met mX0_init 2 25 204 tt [.ref b] (sN shX (b + 1) i r) (cQ shX (b + 26) (ab_up (boI i b 12) b 1 (nI 0)) (boR r b 12)) := by
  have hlt := hb.1
  have hs := hb.2.1
  have hs1 := hb.2.2.1
  refine ab_Met.of rfl (Nat.le_of_ble_eq_true rfl) ?_
  show ab_V mX0_init 2 25 204 tt (cQ shX (b + 26) (ab_up (boI i b 12) b 1 (nI 0)) (boR r b 12)) 0 0 0 [some (.ref b), none] [] (sN shX (b + 1) i r)
  refine ab_aload_n (pc := 0) dX0_init_0 rfl rfl ?_
  refine ab_obj (pc := 1) dX0_init_1 ml_X0_3 (Nat.le_of_ble_eq_true rfl) (by omega) ?_
  refine ab_aload_n (pc := 4) dX0_init_4 rfl rfl ?_
  refine ab_bipush (pc := 5) (v := nI 12) dX0_init_5 (by decide) ?_
  refine cn_newq (pc := 7) (n' := b + 2) (kd := 102) (len := 12) dX0_init_7 htt (by omega) cl_X0_9 (by first | exact Or.inl ⟨rfl, rfl⟩ | exact Or.inr ⟨rfl, rfl⟩) (by first | assumption | rfl) hf (by decide) ⟨by omega, by omega⟩ rfl ?_
  have f1 := Fr.mono (n' := b + 2) hf (by omega)
  refine cn_putR (pc := 10) dX0_init_10 fl_X0_11 (by omega) (by first | assumption | rfl) rfl (fun _ _ _ h => by cases h; first | exact Or.inl rfl | exact Or.inr ⟨rfl, rfl, rfl⟩) ?_
  have f2 := Fr.ur (q := b) (j := 0) (w := some (b + 1)) f1 (by omega)
  refine ab_iconst (pc := 13) (v := nI 0) dX0_init_13 (by decide) ?_
  refine ab_istore_n (pc := 14) dX0_init_14 rfl (Nat.le_of_ble_eq_true rfl) rfl ?_
  exact l_X0 htt hb hf 12 0 rfl
def coI (i : Nat → Nat → Int32) : Nat → Nat → Nat → Int32
  | 0 => ab_up (msI i 5) 1 4 (nI 1)
  | p + 1 => ab_up (msI (ab_up (boI (coI i p) (7 + 28 * p) 12) (7 + 28 * p) 1 (nI 0)) (33 + 28 * p)) 3 p (if p ≤ 4 then nI 1 else nI 0)
def coR (r : Nat → Nat → Option Nat) : Nat → Nat → Nat → Option Nat
  | 0 => ab_up (msR (ab_up (ab_up (ab_up r 1 0 (some 2)) 1 1 (some 3)) 1 2 (some 4)) 5) 1 3 (some 5)
  | p + 1 => ab_up (msR (ab_up (boR (coR r p) (7 + 28 * p) 12) 2 p (some (7 + 28 * p))) (33 + 28 * p)) 4 p (some (33 + 28 * p))
theorem boR_low {b : Nat} {r : Nat → Nat → Option Nat} {q j : Nat} (hq : q < b) : ∀ k, boR r b k q j = r q j
  | 0 => ab_up_ne (by omega)
  | k + 1 => by rw [boR, msR, ab_up_ne (by omega), ab_up_ne (by omega)]; exact boR_low hq k
theorem Fr.co {i : Nat → Nat → Int32} {r : Nat → Nat → Option Nat} (h : Fr 2 i r) : ∀ p, Fr (7 + 28 * p) (coI i p) (coR r p)
  | 0 => by
    have h7 : Fr 7 i r := h.mono (by omega)
    exact (((((h7.ur (by omega)).ur (by omega)).ur (by omega)).ms (by omega)).ui (by omega)).ur (by omega)
  | p + 1 => by
    have h1 := Fr.bo ((Fr.co h p).mono (Nat.le_succ _)) 12
    have h2 : Fr (7 + 28 * (p + 1)) (boI (coI i p) (7 + 28 * p) 12) (boR (coR r p) (7 + 28 * p) 12) := h1.mono (by omega)
    exact ((((h2.ui (by omega)).ur (by omega)).ms (by omega)).ui (by omega)).ur (by omega)
theorem coR_f {r : Nat → Nat → Option Nat} : ∀ p, coR r p 1 0 = some 2 ∧ coR r p 1 1 = some 3 ∧ coR r p 1 2 = some 4
  | 0 => ⟨rfl, rfl, rfl⟩
  | p + 1 => by
    have h := coR_f (r := r) p
    refine ⟨?_, ?_, ?_⟩
    · rw [coR, msR, ab_up_ne (by omega), ab_up_ne (by omega), ab_up_ne (by omega), boR_low (by omega)]; exact h.1
    · rw [coR, msR, ab_up_ne (by omega), ab_up_ne (by omega), ab_up_ne (by omega), boR_low (by omega)]; exact h.2.1
    · rw [coR, msR, ab_up_ne (by omega), ab_up_ne (by omega), ab_up_ne (by omega), boR_low (by omega)]; exact h.2.2
theorem isBo_12 : ∀ p, p < 12 → isBo (7 + 28 * p) ∧ shX (33 + 28 * p) = (6, 8) ∧ shX (33 + 28 * p + 1) = (100, 8) := by
  intro p hp
  have e : ∀ p, p < 12 → 7 + 28 * p + 26 < 366 ∧ shX (7 + 28 * p) = (0, 2) ∧ shX (7 + 28 * p + 1) = (102, 12) ∧ (∀ k, k < 12 → shX (7 + 28 * p + 2 + 2 * k) = (6, 8) ∧ shX (7 + 28 * p + 2 + 2 * k + 1) = (100, 8)) ∧ shX (33 + 28 * p) = (6, 8) ∧ shX (33 + 28 * p + 1) = (100, 8) := by decide +kernel
  obtain ⟨e1, e2, e3, e4, e5, e6⟩ := e p hp
  exact ⟨⟨e1, e2, e3, e4⟩, e5, e6⟩
set_option maxRecDepth 100000 in
set_option maxHeartbeats 4000000 in
theorem l_X1 {tt : Prop} (htt : tt) {i : Nat → Nat → Int32} {r : Nat → Nat → Option Nat} (hf : Fr 2 i r) : ∀ (j p : Nat), j + p = 12 → ab_V mX1_init 3 341 2716 tt (cQ shX 343 (coI i 12) (coR r 12)) (5 + 28 * p) (52 + 222 * p) 48 [some (.ref (1 : Nat)), some (.int (nI p))] [] (sN shX (7 + 28 * p) (coI i p) (coR r p)) := by
  intro j
  induction j with
  | zero =>
    intro k hk
    have hk : k = 12 := by omega
    subst hk
    refine ab_iload_n (pc := 48) dX1_init_48 rfl rfl ?_
    refine ab_bipush (pc := 49) (v := nI 12) dX1_init_49 (by decide) ?_
    refine ab_icmp_geN (pc := 51) (tgt := 102) dX1_init_51 (by decide) (by decide) (by decide) (fun _ => ?_) (fun z => absurd (Nat.le_refl 12) z)
    exact ab_return (pc := 102) dX1_init_102 rfl ⟨by omega, by omega⟩ (fun _ => by omega) ⟨rfl, rfl⟩
  | succ j ih =>
    intro p hp
    obtain ⟨s1, s2, s3⟩ := isBo_12 p (by omega)
    obtain ⟨f1, f2, f3⟩ := coR_f (r := r) p
    have F0 := Fr.co hf p
    have F1 : Fr (7 + 28 * p + 1) (coI i p) (coR r p) := F0.mono (by omega)
    have F2 : Fr (33 + 28 * p) (boI (coI i p) (7 + 28 * p) 12) (boR (coR r p) (7 + 28 * p) 12) := (Fr.bo F1 12).mono (by omega)
    have F3 : Fr (33 + 28 * p) (ab_up (boI (coI i p) (7 + 28 * p) 12) (7 + 28 * p) 1 (nI 0)) (ab_up (boR (coR r p) (7 + 28 * p) 12) 2 p (some (7 + 28 * p))) := (F2.ui (by omega)).ur (by omega)
    refine ab_iload_n (pc := 48) dX1_init_48 rfl rfl ?_
    refine ab_bipush (pc := 49) (v := nI 12) dX1_init_49 (by decide) ?_
    refine ab_icmp_geN (pc := 51) (tgt := 102) dX1_init_51 (by decide) (by omega) (by decide) (fun z => absurd z (by omega)) (fun _ => ?_)
    refine ab_aload_n (pc := 54) dX1_init_54 rfl rfl ?_
    refine cn_getR (pc := 55) (x := (2 : Nat)) dX1_init_55 fl_X1_11 (by omega) rfl rfl f1 ?_
    refine ab_iload_n (pc := 58) dX1_init_58 rfl rfl ?_
    refine cn_new (pc := 59) (n' := 7 + 28 * p + 1) (ci := 0) dX1_init_59 htt (by omega) cl_X1_9 rfl s1.2.1 F0 ⟨by omega, by omega⟩ rfl ?_
    refine ab_dup (pc := 62) dX1_init_62 rfl ?_
    refine cn_inv (pc := 63) (N := mX0_init) dX1_init_63 ml_X1_36 fi_X0_init (Nat.le_of_ble_eq_true rfl) (by omega) ⟨by omega, by omega⟩ (n_X0 htt s1 F1) ?_
    refine cn_aast (pc := 66) (ck := 0) dX1_init_66 (by omega) (show shX 2 = (103, 12) from rfl) (Or.inr ⟨rfl, rfl⟩) (by omega) (by decide) (by omega) s1.2.1 ?_
    refine ab_aload_n (pc := 67) dX1_init_67 rfl rfl ?_
    refine cn_getR (pc := 68) (x := (4 : Nat)) dX1_init_68 fl_X1_23 (by omega) rfl rfl (by rw [ab_up_ne (by omega), boR_low (by omega)]; exact f3) ?_
    refine ab_iload_n (pc := 71) dX1_init_71 rfl rfl ?_
    refine cn_at (kc' := 5 + 28 * p + 1 + 25) (ks' := 52 + 222 * p + 2 + 204) (n' := 33 + 28 * p) (by omega) (by omega) (by omega) ?_
    refine cn_new (pc := 72) (n' := 33 + 28 * p + 1) (ci := 6) dX1_init_72 htt (by omega) cl_X1_21 rfl s2 F3 ⟨by omega, by omega⟩ rfl ?_
    refine ab_dup (pc := 75) dX1_init_75 rfl ?_
    refine cn_invN (pc := 76) (N := mX6_init) dX1_init_76 nn_X1_27 fi_X6_init (Nat.le_of_ble_eq_true rfl) (by omega) ⟨by omega, by omega⟩ (n_X6 htt s2 s3 (by omega) (F3.mono (by omega))) ?_
    refine cn_aast (pc := 79) (ck := 6) dX1_init_79 (by omega) (show shX 4 = (102, 12) from rfl) (Or.inl ⟨rfl, rfl⟩) (by omega) (by decide) (by omega) s2 ?_
    refine ab_aload_n (pc := 80) dX1_init_80 rfl rfl ?_
    refine cn_getR (pc := 81) (x := (3 : Nat)) dX1_init_81 fl_X1_17 (by omega) rfl rfl (by rw [ab_up_ne (by omega), msR, ab_up_ne (by omega), ab_up_ne (by omega), boR_low (by omega)]; exact f2) ?_
    refine ab_iload_n (pc := 84) dX1_init_84 rfl rfl ?_
    refine ab_iload_n (pc := 85) dX1_init_85 rfl rfl ?_
    refine ab_iconst (pc := 86) (v := nI 4) dX1_init_86 (by decide) ?_
    have T : ∀ v : Int32, v = (if p ≤ 4 then nI 1 else nI 0) → (v = 0 ∨ v = 1) → ab_V mX1_init 3 341 2716 tt (cQ shX 343 (coI i 12) (coR r 12)) (5 + 28 * p + 1 + 25 + 1 + 1) (52 + 222 * p + 2 + 204 + 8 + 8) 95 [some (.ref (1 : Nat)), some (.int (nI p))] [.int v, .int (nI p), .ref (3 : Nat)] (sN shX (33 + 28 * p + 2) (msI (ab_up (boI (coI i p) (7 + 28 * p) 12) (7 + 28 * p) 1 (nI 0)) (33 + 28 * p)) (ab_up (msR (ab_up (boR (coR r p) (7 + 28 * p) 12) 2 p (some (7 + 28 * p))) (33 + 28 * p)) 4 p (some (33 + 28 * p)))) := by
      intro v hv hv2
      subst hv
      refine cn_zast (pc := 95) dX1_init_95 (by omega) (show shX 3 = (101, 12) from rfl) (by omega) (by decide) hv2 ?_
      refine ab_iinc (pc := 96) (v := nI (p + 1)) dX1_init_96 rfl (ab_inc p) (Nat.le_of_ble_eq_true rfl) rfl ?_
      refine ab_goto (pc := 99) (tgt := 48) dX1_init_99 (by decide) ?_
      exact cn_at (by omega) (by omega) (by omega) (ih (p + 1) (by omega))
    refine ab_icmp_gtN (pc := 87) (tgt := 94) dX1_init_87 (by decide) (by omega) (by decide) (fun c => ?_) (fun c => ?_)
    · refine ab_iconst (pc := 94) (v := nI 0) dX1_init_94 (by decide) ?_
      exact T _ (if_neg (by omega)).symm (Or.inl rfl)
    · refine ab_iconst (pc := 90) (v := nI 1) dX1_init_90 (by decide) ?_
      refine ab_goto (pc := 91) (tgt := 95) dX1_init_91 (by decide) ?_
      exact T _ (if_pos (by omega)).symm (Or.inr rfl)
set_option maxRecDepth 100000 in
set_option maxHeartbeats 4000000 in
theorem n_X1 {tt : Prop} (htt : tt) {i : Nat → Nat → Int32} {r : Nat → Nat → Option Nat} (hf : Fr 2 i r) : ab_Met mX1_init 3 341 2716 tt [.ref (1 : Nat)] (sN shX 2 i r) (cQ shX 343 (coI i 12) (coR r 12)) := by
  refine ab_Met.of rfl (Nat.le_of_ble_eq_true rfl) ?_
  show ab_V mX1_init 3 341 2716 tt (cQ shX 343 (coI i 12) (coR r 12)) 0 0 0 [some (.ref (1 : Nat)), none] [] (sN shX 2 i r)
  refine ab_aload_n (pc := 0) dX1_init_0 rfl rfl ?_
  refine ab_obj (pc := 1) dX1_init_1 ml_X1_3 (Nat.le_of_ble_eq_true rfl) (by omega) ?_
  refine ab_aload_n (pc := 4) dX1_init_4 rfl rfl ?_
  refine ab_bipush (pc := 5) (v := nI 12) dX1_init_5 (by decide) ?_
  refine cn_newq (pc := 7) (n' := 3) (kd := 103) (len := 12) dX1_init_7 htt (by omega) cl_X1_9 (by first | exact Or.inl ⟨rfl, rfl⟩ | exact Or.inr ⟨rfl, rfl⟩) rfl hf (by decide) ⟨by omega, by omega⟩ rfl ?_
  have f1 := Fr.mono (n' := 3) hf (by omega)
  refine cn_putR (pc := 10) dX1_init_10 fl_X1_11 (by omega) rfl rfl (fun _ _ _ h => by cases h; first | exact Or.inl rfl | exact Or.inr ⟨rfl, rfl, rfl⟩) ?_
  have f2 := Fr.ur (q := 1) (j := 0) (w := some (2)) f1 (by omega)
  refine ab_aload_n (pc := 13) dX1_init_13 rfl rfl ?_
  refine ab_bipush (pc := 14) (v := nI 12) dX1_init_14 (by decide) ?_
  refine cn_newa (pc := 16) (n' := 4) (kd := 101) (len := 12) dX1_init_16 htt (by omega) (by first | exact Or.inl ⟨rfl, rfl⟩ | exact Or.inr ⟨rfl, rfl⟩) rfl f2 (by decide) ⟨by omega, by omega⟩ rfl ?_
  have f3 := Fr.mono (n' := 4) f2 (by omega)
  refine cn_putR (pc := 18) dX1_init_18 fl_X1_17 (by omega) rfl rfl (fun _ _ _ h => by cases h; first | exact Or.inl rfl | exact Or.inr ⟨rfl, rfl, rfl⟩) ?_
  have f4 := Fr.ur (q := 1) (j := 1) (w := some (3)) f3 (by omega)
  refine ab_aload_n (pc := 21) dX1_init_21 rfl rfl ?_
  refine ab_bipush (pc := 22) (v := nI 12) dX1_init_22 (by decide) ?_
  refine cn_newq (pc := 24) (n' := 5) (kd := 102) (len := 12) dX1_init_24 htt (by omega) cl_X1_21 (by first | exact Or.inl ⟨rfl, rfl⟩ | exact Or.inr ⟨rfl, rfl⟩) rfl f4 (by decide) ⟨by omega, by omega⟩ rfl ?_
  have f5 := Fr.mono (n' := 5) f4 (by omega)
  refine cn_putR (pc := 27) dX1_init_27 fl_X1_23 (by omega) rfl rfl (fun _ _ _ h => by cases h; first | exact Or.inl rfl | exact Or.inr ⟨rfl, rfl, rfl⟩) ?_
  have f6 := Fr.ur (q := 1) (j := 2) (w := some (4)) f5 (by omega)
  refine ab_aload_n (pc := 30) dX1_init_30 rfl rfl ?_
  refine cn_new (pc := 31) (n' := 6) (ci := 6) dX1_init_31 htt (by omega) cl_X1_21 rfl rfl f6 ⟨by omega, by omega⟩ rfl ?_
  have f7 := Fr.mono (n' := 6) f6 (by omega)
  refine ab_dup (pc := 34) dX1_init_34 rfl ?_
  refine cn_invN (pc := 35) (N := mX6_init) dX1_init_35 nn_X1_27 fi_X6_init (Nat.le_of_ble_eq_true rfl) (by omega) ⟨by omega, by omega⟩ (n_X6 htt (by first | assumption | rfl) (by first | assumption | rfl) (by omega) f7) ?_
  have f8 := Fr.mono (n' := 7) (Fr.ms (q := 5) f7 (by omega)) (by omega)
  refine cn_putR (pc := 38) dX1_init_38 fl_X1_28 (by omega) rfl rfl (fun _ _ _ h => by cases h; first | exact Or.inl rfl | exact Or.inr ⟨rfl, rfl, rfl⟩) ?_
  have f9 := Fr.ur (q := 1) (j := 3) (w := some (5)) f8 (by omega)
  refine ab_aload_n (pc := 41) dX1_init_41 rfl rfl ?_
  refine ab_iconst (pc := 42) (v := nI 1) dX1_init_42 (by decide) ?_
  refine cn_putI (pc := 43) dX1_init_43 fl_X1_32 (by omega) rfl rfl (fun _ _ _ h => by cases h; first | exact Or.inl rfl | exact Or.inr ⟨rfl, rfl, rfl⟩) (by first | exact ab_ok_i _ | exact ab_ok_b (Or.inr rfl)) ?_
  have f10 := Fr.ui (q := 1) (j := 4) (v := nI 1) f9 (by omega)
  refine ab_iconst (pc := 46) (v := nI 0) dX1_init_46 (by decide) ?_
  refine ab_istore_n (pc := 47) dX1_init_47 rfl (Nat.le_of_ble_eq_true rfl) rfl ?_
  exact l_X1 htt hf 12 0 rfl
