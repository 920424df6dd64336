/-! FILES, VI: WRITE -/
theorem cnt_le (p : Nat → Bool) : ∀ n, cnt p n ≤ n := by
  intro n
  induction n with
  | zero => exact Nat.le_refl 0
  | succ n ih =>
    rw [cnt]
    by_cases c : p n = true
    · rw [if_pos c]; omega
    · rw [if_neg c]; omega
theorem cnt_0 {p : Nat → Bool} : ∀ n, (∀ i, i < n → p i = false) → cnt p n = 0 := by
  intro n
  induction n with
  | zero => intro _; rfl
  | succ n ih =>
    intro h
    rw [cnt, ih (fun i hi => h i (by omega)), h n (by omega)]
    rfl
theorem cnt_pos {p : Nat → Bool} {f : Nat} (hp : p f = true) : ∀ n, f < n → 0 < cnt p n := by
  intro n
  induction n with
  | zero => intro h; omega
  | succ n ih =>
    intro h
    rw [cnt]
    by_cases e : f = n
    · subst e; rw [if_pos hp]; omega
    · have := ih (by omega); omega
def xTB (g P f : Nat) (c : mD) : mD := ab_up (ab_up (ab_up c 352 f (nI 1)) 348 5 (c 348 5 - nI 1)) 351 (4 * g + P / 8) (nI f)
theorem takeB_l {x : xD} {m : mD} {g P f : Nat} (h : R3 x m) (hg : g < 16) (hP : P < 32) (hf : f ≤ 24) (h1 : ∀ j, j < f → ¬ m 19 j = 0) (h2 : f < 24 → m 19 f = 0) : ∀ (n k : Nat), k ≤ f → f - k < n → FX4_takeBlock_22 n (nI g) (nI P) k x = (if f < 24 then (nI f, (xTB g P f x.1, x.2)) else (-1, x)) ∧ DX4_takeBlock_22 n (nI g) (nI P) k x := by
  have dv : nI P / nI 8 = nI (P / 8) := pk_div (by omega) (by decide) (by decide)
  have ei : nI g * nI 4 + nI P / nI 8 = nI (4 * g + P / 8) := by rw [dv, pk_mul, nI_add, Nat.mul_comm]
  have hci : (nI (4 * g + P / 8)).toNatClampNeg = 4 * g + P / 8 := nI_clamp (by omega)
  intro n
  induction n with
  | zero => intro k _ h; omega
  | succ n ih =>
    intro k hk hn
    rw [FX4_takeBlock_22, DX4_takeBlock_22, ei, hci]
    by_cases e : 24 ≤ k
    · rw [if_pos e, if_neg (show ¬ f < 24 by omega)]
      exact ⟨rfl, by omega, fun _ => trivial, fun z => absurd e z⟩
    · rw [if_neg e, (rTab_of h).2.2.1 k (by omega)]
      by_cases hkf : k = f
      · subst hkf
        have c := h2 (by omega)
        have e5 : ab_up x.1 352 k (nI 1) 348 5 = x.1 348 5 := ab_up_ne (by decide)
        rw [if_pos c, if_pos (show k < 24 by omega)]
        dsimp only
        rw [e5]
        exact ⟨rfl, by omega, fun z => absurd z e, fun _ => ⟨by omega, fun _ => ⟨by omega, nI_pos (by omega), by omega, trivial⟩, fun z => absurd c z⟩⟩
      · have c := h1 k (by omega)
        obtain ⟨i1, i2⟩ := ih (k + 1) (by omega) (by omega)
        rw [if_neg c]
        exact ⟨i1, by omega, fun z => absurd z e, fun _ => ⟨by omega, fun z => absurd z c, fun _ => i2⟩⟩
theorem takeB_rel {x : xD} {m : mD} {g P f : Nat} (h : R3 x m) (hg : g < 16) (hP : P < 32) (hf : f < 24) (h0 : m 19 f = 0) : R3 (xTB g P f x.1, x.2) (ab_up (ab_up m 19 f (nI 1)) 18 (4 * g + P / 8) (nI f)) := by
  obtain ⟨t1, t2, t3, t4, t5⟩ := rTab_of h
  obtain ⟨r1, r2, b1, b2, b3, b4, b5, b6, b7, b8⟩ := h
  have mo : ∀ q j, ¬ q = 18 → ¬ q = 19 → ab_up (ab_up m 19 f (nI 1)) 18 (4 * g + P / 8) (nI f) q j = m q j := fun q j e1 e2 => by rw [ab_up_ne e1, ab_up_ne e2]
  obtain ⟨c1, c2⟩ := RMH.rest (x' := (xTB g P f x.1, x.2)) (m' := ab_up (ab_up m 19 f (nI 1)) 18 (4 * g + P / 8) (nI f)) r1 r2 rfl (fun q j _ hq => by show xTB g P f x.1 q j = _; rw [xTB, ab_up_ne (by omega), ab_up_ne (by omega), ab_up_ne (by omega)]) (fun q j hq => mo q j (by omega) (by omega)) (fun j hj => mo 0 j (by omega) (by omega))
  refine ⟨c1, c2, b1, b2, b3, ?_, b5, b6, b7, b8⟩
  have hcnt : cnt (fun i => decide (m 19 i = 0)) 24 = cnt (fun i => decide (ab_up m 19 f (nI 1) 19 i = 0)) 24 + 1 := by
    refine cnt_add (f := f) (fun i hi => ?_) ?_ ?_ 24 hf
    · show decide (m 19 i = 0) = decide (ab_up m 19 f (nI 1) 19 i = 0)
      rw [ab_up_nj hi]
    · show decide (ab_up m 19 f (nI 1) 19 f = 0) = false
      rw [ab_up_eq]; decide
    · show decide (m 19 f = 0) = true
      rw [h0]; decide
  show (∀ i, i < 16 → x.1 349 i = m 16 i) ∧ (∀ i, i < 16 → m 16 i = 1 → x.1 350 i = m 17 i ∧ ∀ b2, b2 < 4 → ¬ ab_up (ab_up m 19 f (nI 1)) 18 (4 * g + P / 8) (nI f) 18 (4 * i + b2) < 0 → ab_up (ab_up (ab_up x.1 352 f (nI 1)) 348 5 (x.1 348 5 - nI 1)) 351 (4 * g + P / 8) (nI f) 351 (4 * i + b2) = ab_up (ab_up m 19 f (nI 1)) 18 (4 * g + P / 8) (nI f) 18 (4 * i + b2)) ∧ (∀ i, i < 24 → ab_up x.1 352 f (nI 1) 352 i = ab_up m 19 f (nI 1) 19 i) ∧ x.1 348 4 = nI (cnt (fun i => decide (m 16 i = 1)) 16) ∧ x.1 348 5 - nI 1 = nI (cnt (fun i => decide (ab_up m 19 f (nI 1) 19 i = 0)) 24)
  refine ⟨t1, fun i hi hth => ⟨(t2 i hi hth).1, fun b2 hb2 z => ?_⟩, fun i hi => ?_, t4, by rw [t5, hcnt, pk_sub (by omega), Nat.add_sub_cancel]⟩
  · by_cases e : 4 * i + b2 = 4 * g + P / 8
    · rw [e, ab_up_eq, ab_up_eq]
    · have l1 : ab_up (ab_up (ab_up x.1 352 f (nI 1)) 348 5 (x.1 348 5 - nI 1)) 351 (4 * g + P / 8) (nI f) 351 (4 * i + b2) = x.1 351 (4 * i + b2) := by rw [ab_up_nj e, ab_up_ne (by decide), ab_up_ne (by decide)]
      have l2 : ab_up (ab_up m 19 f (nI 1)) 18 (4 * g + P / 8) (nI f) 18 (4 * i + b2) = m 18 (4 * i + b2) := by rw [ab_up_nj e, ab_up_ne (by decide)]
      rw [l2] at z
      rw [l1, l2]
      exact (t2 i hi hth).2 b2 hb2 z
  · by_cases e : i = f
    · subst e; rw [ab_up_eq, ab_up_eq]
    · rw [ab_up_nj e, ab_up_nj e]; exact t3 i hi
/-- in hand, while it doesn't wait -/
theorem hand0 {x : xD} {m : mD} {u e r w a b c : Int32} (h : R3 x m) (h35 : m 0 35 = 0) : R3 (FX3_takeInHand u e r w x) (ab_up (ab_up (ab_up m 0 37 a) 0 38 b) 0 39 c) := by
  obtain ⟨r1, r2, b1, b2, b3, b4, b5, b6, b7, b8⟩ := h
  obtain ⟨c1, c2⟩ := RMH.rest (x' := FX3_takeInHand u e r w x) (m' := ab_up (ab_up (ab_up m 0 37 a) 0 38 b) 0 39 c) r1 r2 rfl (fun q j _ hq => by
    show ab_up (ab_up (ab_up (ab_up x.1 347 6 u) 347 7 e) 347 5 r) 347 8 w q j = _
    rw [ab_up_ne (by omega), ab_up_ne (by omega), ab_up_ne (by omega), ab_up_ne (by omega)]) (fun q j hq => by rw [ab_up_ne (by omega), ab_up_ne (by omega), ab_up_ne (by omega)]) (fun j hj => by rw [ab_up_nj (by omega), ab_up_nj (by omega), ab_up_nj (by omega)])
  refine ⟨c1, c2, b1, b2, b3, b4, b5, ?_, b7, b8⟩
  have b6' : x.1 347 2 = m 0 35 ∧ x.1 347 4 = m 0 34 ∧ _ := b6
  exact ⟨b6'.1, b6'.2.1, fun z => absurd (h35.symm.trans z) (by decide)⟩
theorem hand_m {x : xD} {m : mD} {a b c : Int32} (h : R3 x m) (h35 : m 0 35 = 0) : R3 x (ab_up (ab_up (ab_up m 0 37 a) 0 38 b) 0 39 c) := by
  obtain ⟨r1, r2, b1, b2, b3, b4, b5, b6, b7, b8⟩ := h
  obtain ⟨c1, c2⟩ := RMH.rest (x' := x) (m' := ab_up (ab_up (ab_up m 0 37 a) 0 38 b) 0 39 c) r1 r2 rfl (fun _ _ _ _ => rfl) (fun q j hq => by rw [ab_up_ne (by omega), ab_up_ne (by omega), ab_up_ne (by omega)]) (fun j hj => by rw [ab_up_nj (by omega), ab_up_nj (by omega), ab_up_nj (by omega)])
  have b6' : x.1 347 2 = m 0 35 ∧ x.1 347 4 = m 0 34 ∧ _ := b6
  exact ⟨c1, c2, b1, b2, b3, b4, b5, ⟨b6'.1, b6'.2.1, fun z => absurd (h35.symm.trans z) (by decide)⟩, b7, b8⟩
theorem nums_rel {x : xD} {m : mD} {G : Nat → Int32} {k : Int32} (h : R3 x m) (h35 : m 0 35 = 0) : R3 (fil (ab_up x.1 347 10 k) 356 0 8 G, x.2) (fil m 22 0 8 G) := by
  obtain ⟨r1, r2, b1, b2, b3, b4, b5, b6, b7, b8⟩ := h
  obtain ⟨c1, c2⟩ := RMH.rest (x' := (fil (ab_up x.1 347 10 k) 356 0 8 G, x.2)) (m' := fil m 22 0 8 G) r1 r2 rfl (fun q j _ hq => by
    show fil (ab_up x.1 347 10 k) 356 0 8 G q j = _
    rw [fil_q (by omega), ab_up_ne (by omega)]) (fun q j hq => fil_q (by omega)) (fun j hj => fil_q (by omega))
  have b6' : x.1 347 2 = m 0 35 ∧ x.1 347 4 = m 0 34 ∧ _ := b6
  exact ⟨c1, c2, b1, b2, b3, b4, b5, ⟨b6'.1, b6'.2.1, fun z => absurd (h35.symm.trans z) (by decide)⟩, b7, b8⟩
def gW (w : Int32) (i : Nat) : Int32 := if i = 0 then w else nI 0
theorem FX3_write_117_l {c : mD} {r : Nat → Nat → Nat} {u e w : Int32} (hD : DX3_ask (nI 21) (fil c 356 0 8 (gW w), r)) : ∀ (n k : Nat), k ≤ 8 → 8 - k < n → FX3_write_117 n u e w k (fil c 356 0 k (gW w), r) = FX3_ask (nI 21) (fil c 356 0 8 (gW w), r) ∧ DX3_write_117 n u e w k (fil c 356 0 k (gW w), r) := by
  intro n
  induction n with
  | zero => intro k _ h; omega
  | succ n ih =>
    intro k hk hn
    by_cases e8 : 8 ≤ k
    · have e : k = 8 := by omega
      subst e
      rw [FX3_write_117, DX3_write_117, if_pos e8]
      exact ⟨rfl, by decide, fun _ => ⟨hD, trivial⟩, fun z => absurd e8 z⟩
    · obtain ⟨i1, i2⟩ := ih (k + 1) (by omega) (by omega)
      have es := fil_s (m := c) (q := 356) (lo := 0) (k := k) (g := gW w)
      rw [Nat.zero_add] at es
      rw [FX3_write_117, DX3_write_117, if_neg e8]
      by_cases c0 : k = 0
      · rw [gW, if_pos c0] at es
        rw [if_pos c0]
        dsimp only
        rw [es]
        exact ⟨i1, by omega, fun z => absurd z e8, fun _ => ⟨by omega, fun _ => ⟨by omega, i2⟩, fun z => absurd c0 z⟩⟩
      · rw [gW, if_neg c0] at es
        rw [if_neg c0]
        dsimp only
        rw [es]
        exact ⟨i1, by omega, fun z => absurd z e8, fun _ => ⟨by omega, fun z => absurd z c0, fun _ => ⟨by omega, i2⟩⟩⟩
def mSt (g P : Nat) (m : mD) : mD := ab_up (ab_up (ab_up m 0 36 (nI 3)) 0 40 (nI 21)) 0 41 (m 18 (4 * g + P / 8))
theorem Fwrites_128_l {m : mD} {u s g P : Nat} {w : Int32} (hg : g < 16) (hP : P < 32) (hD : DasksDriver (mSt g P (fil m 22 0 8 (gW w)))) : ∀ (n k : Nat), k ≤ 8 → 8 - k < n → Fwrites_128 n u s g w (nI P) k (fil m 22 0 k (gW w)) = FasksDriver (mSt g P (fil m 22 0 8 (gW w))) ∧ Dwrites_128 n u s g w (nI P) k (fil m 22 0 k (gW w)) := by
  have dv : nI P / nI 8 = nI (P / 8) := pk_div (by omega) (by decide) (by decide)
  have ei : nI (4 * g) + nI P / nI 8 = nI (4 * g + P / 8) := by rw [dv, nI_add]
  have hci : (nI (4 * g + P / 8)).toNatClampNeg = 4 * g + P / 8 := nI_clamp (by omega)
  intro n
  induction n with
  | zero => intro k _ h; omega
  | succ n ih =>
    intro k hk hn
    by_cases e8 : 8 ≤ k
    · have e : k = 8 := by omega
      subst e
      have e18 : ab_up (ab_up (fil m 22 0 8 (gW w)) 0 36 (nI 3)) 0 40 (nI 21) 18 (4 * g + P / 8) = fil m 22 0 8 (gW w) 18 (4 * g + P / 8) := by rw [ab_up_ne (by decide), ab_up_ne (by decide)]
      rw [Fwrites_128, Dwrites_128, if_pos e8, ei, hci]
      dsimp only
      rw [e18]
      exact ⟨rfl, by decide, fun _ => ⟨nI_pos (by omega), by omega, hD, trivial⟩, fun z => absurd e8 z⟩
    · obtain ⟨i1, i2⟩ := ih (k + 1) (by omega) (by omega)
      have es := fil_s (m := m) (q := 22) (lo := 0) (k := k) (g := gW w)
      rw [Nat.zero_add] at es
      rw [Fwrites_128, Dwrites_128, if_neg e8]
      by_cases c0 : k = 0
      · rw [gW, if_pos c0] at es
        rw [if_pos c0]
        dsimp only
        rw [es]
        exact ⟨i1, by omega, fun z => absurd z e8, fun _ => ⟨by omega, fun _ => ⟨by omega, i2⟩, fun z => absurd c0 z⟩⟩
      · rw [gW, if_neg c0] at es
        rw [if_neg c0]
        dsimp only
        rw [es]
        exact ⟨i1, by omega, fun z => absurd z e8, fun _ => ⟨by omega, fun z => absurd z c0, fun _ => ⟨by omega, i2⟩⟩⟩
theorem Fwrites_62_l {m : mD} {u s g P f : Nat} {w : Int32} (hg : g < 16) (hP : P < 32) (hf : f ≤ 24) (h1 : ∀ j, j < f → ¬ m 19 j = 0) (h2 : f < 24 → m 19 f = 0) (hA : f < 24 → Dwrites_128 25 u s g w (nI P) 0 (ab_up (ab_up m 19 f (nI 1)) 18 (4 * g + P / 8) (nI f))) (hT : ¬ f < 24 → Dtells 2 u (-6) m) : ∀ (n k : Nat), k ≤ f → f - k < n → Fwrites_62 n u s g w (nI P) k m = (if f < 24 then Fwrites_128 25 u s g w (nI P) 0 (ab_up (ab_up m 19 f (nI 1)) 18 (4 * g + P / 8) (nI f)) else Ftells 2 u (-6) m) ∧ Dwrites_62 n u s g w (nI P) k m := by
  have dv : nI P / nI 8 = nI (P / 8) := pk_div (by omega) (by decide) (by decide)
  have ei : nI (4 * g) + nI P / nI 8 = nI (4 * g + P / 8) := by rw [dv, nI_add]
  have hci : (nI (4 * g + P / 8)).toNatClampNeg = 4 * g + P / 8 := nI_clamp (by omega)
  intro n
  induction n with
  | zero => intro k _ h; omega
  | succ n ih =>
    intro k hk hn
    rw [Fwrites_62, Dwrites_62, ei, hci]
    by_cases e : 24 ≤ k
    · have e4 : k = 24 := by omega
      have ef : ¬ f < 24 := by omega
      rw [if_pos e, if_pos e4, if_neg ef]
      exact ⟨rfl, by omega, fun _ => ⟨by omega, fun _ => ⟨hT ef, trivial⟩, fun z => absurd e4 z⟩, fun z => absurd e z⟩
    · have e4 : ¬ k = 24 := by omega
      rw [if_neg e]
      by_cases hkf : k = f
      · subst hkf
        have c := h2 (by omega)
        rw [if_pos c, if_neg e4, if_pos (show k < 24 by omega)]
        exact ⟨rfl, by omega, fun z => absurd z e, fun _ => ⟨by omega, fun _ => ⟨by omega, fun z => absurd z e4, fun _ => ⟨by omega, nI_pos (by omega), by omega, hA (by omega)⟩⟩, fun z => absurd c z⟩⟩
      · have c := h1 k (by omega)
        obtain ⟨i1, i2⟩ := ih (k + 1) (by omega) (by omega)
        rw [if_neg c]
        exact ⟨i1, by omega, fun z => absurd z e, fun _ => ⟨by omega, fun z => absurd z c, fun _ => i2⟩⟩
theorem needs_of {x : xD} {g P S : Nat} (hg : g < 16) (hP : P ≤ 32) (hS : S ≤ 32) (h349 : ¬ x.1 349 g = 0) (h350 : x.1 350 g = nI S) : FX4_needsBlock (nI g) (nI P) x = (if P = S ∧ P % 8 = 0 then nI 1 else nI 0) ∧ DX4_needsBlock (nI g) (nI P) x := by
  obtain ⟨h1, h2⟩ := has_of hg h349
  have hc : (nI g).toNatClampNeg = g := nI_clamp (by omega)
  rw [FX4_needsBlock, DX4_needsBlock, if_neg h1, hc, h350, pk_rem (by omega) (by decide) (by decide)]
  refine ⟨?_, h2, fun z => absurd z h1, fun _ => ⟨nI_pos (by omega), hg, trivial⟩⟩
  by_cases c : P = S
  · subst c
    rw [if_pos rfl]
    by_cases c2 : P % 8 = 0
    · rw [if_pos (by rw [c2]; exact nI00), if_pos ⟨rfl, c2⟩]
    · rw [if_neg (nI_ne0 (by omega) (by omega)), if_neg (fun z => c2 z.2)]
  · rw [if_neg (fun z => c ((nI_eq (by omega) (by omega)).mp z)), if_neg (fun z => c z.1)]
