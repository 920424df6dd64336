/-! FILES, II: OPEN -/
theorem cnt_same {p q : Nat → Bool} : ∀ n, (∀ i, i < n → q i = p i) → cnt q n = cnt p n := by
  intro n
  induction n with
  | zero => intro _; rfl
  | succ n ih =>
    intro h
    rw [cnt, cnt, ih (fun i hi => h i (by omega)), h n (by omega)]
theorem cnt_add {p q : Nat → Bool} {f : Nat} (h : ∀ i, i ≠ f → q i = p i) (hp : p f = false) (hq : q f = true) : ∀ n, f < n → cnt q n = cnt p n + 1 := by
  intro n
  induction n with
  | zero => intro h; omega
  | succ n ih =>
    intro hf
    by_cases e : f = n
    · subst e
      rw [cnt, cnt, cnt_same f (fun i hi => h i (by omega)), hp, hq]
      rfl
    · rw [cnt, cnt, ih (by omega), h n (fun z => e z.symm)]
      omega
theorem rTab_of {x : xD} {m : mD} (h : R3 x m) : (∀ i, i < 16 → x.1 349 i = m 16 i) ∧ (∀ i, i < 16 → m 16 i = 1 → x.1 350 i = m 17 i ∧ ∀ b, b < 4 → ¬ m 18 (4 * i + b) < 0 → x.1 351 (4 * i + b) = m 18 (4 * i + b)) ∧ (∀ i, i < 24 → x.1 352 i = m 19 i) ∧ x.1 348 4 = nI (cnt (fun i => decide (m 16 i = 1)) 16) ∧ x.1 348 5 = nI (cnt (fun i => decide (m 19 i = 0)) 24) := h.2.2.2.2.2.1
theorem has_rel {x : xD} {m : mD} {f : Nat} (h : R3 x m) (hf : f < 16) : FX4_has (nI f) x = (if m 16 f = 0 then nI 0 else nI 1) ∧ DX4_has (nI f) x := by
  have c0 : ¬ nI f < 0 := nI_pos (by omega)
  have c16 : ¬ nI 16 ≤ nI f := nI_ge hf (by decide)
  have hc : (nI f).toNatClampNeg = f := nI_clamp (by omega)
  rw [FX4_has, DX4_has, if_neg c0, if_neg c16, hc, (rTab_of h).1 f hf]
  exact ⟨rfl, fun z => absurd z c0, fun _ => ⟨fun z => absurd z c16, fun _ => ⟨c0, hf, trivial⟩⟩⟩
theorem size_rel {x : xD} {m : mD} {f : Nat} (h : R3 x m) (hf : f < 16) (ht : m 16 f = 1) : FX4_sizeOf (nI f) x = m 17 f ∧ DX4_sizeOf (nI f) x := by
  obtain ⟨h1, h2⟩ := has_rel h hf
  have hc : (nI f).toNatClampNeg = f := nI_clamp (by omega)
  have n0 : ¬ FX4_has (nI f) x = 0 := by rw [h1, if_neg (by rw [ht]; decide)]; decide
  rw [FX4_sizeOf, DX4_sizeOf, if_neg n0, hc, ((rTab_of h).2.1 f hf ht).1]
  exact ⟨rfl, h2, fun _ => trivial, fun _ => ⟨nI_pos (by omega), hf, trivial⟩⟩
/-- a file made -/
theorem make_rel {x : xD} {m : mD} {f : Nat} (h : R3 x m) (hf : f < 16) (h0 : m 16 f = 0) (hb : ∀ b, b < 4 → m 18 (4 * f + b) < 0) : FX4_make (nI f) x = (ab_up (ab_up (ab_up x.1 349 f (nI 1)) 350 f (nI 0)) 348 4 (x.1 348 4 + nI 1), x.2) ∧ DX4_make (nI f) x ∧ R3 (ab_up (ab_up (ab_up x.1 349 f (nI 1)) 350 f (nI 0)) 348 4 (x.1 348 4 + nI 1), x.2) (ab_up (ab_up m 16 f (nI 1)) 17 f (nI 0)) := by
  have hc : (nI f).toNatClampNeg = f := nI_clamp (by omega)
  have c0 : ¬ nI f < 0 := nI_pos (by omega)
  have c16 : ¬ nI 16 ≤ nI f := nI_ge hf (by decide)
  obtain ⟨t1, t2, t3, t4, t5⟩ := rTab_of h
  have x0 : x.1 349 f = 0 := (t1 f hf).trans h0
  have e1 : FX4_make (nI f) x = (ab_up (ab_up (ab_up x.1 349 f (nI 1)) 350 f (nI 0)) 348 4 (x.1 348 4 + nI 1), x.2) := by
    rw [FX4_make, if_neg c0, if_neg c16, hc, if_pos x0]
    have : ab_up (ab_up x.1 349 f (nI 1)) 350 f (nI 0) 348 4 = x.1 348 4 := by rw [ab_up_ne (by decide), ab_up_ne (by decide)]
    dsimp only
    rw [this]
  refine ⟨e1, ⟨fun _ => trivial, fun _ => ⟨fun _ => trivial, fun _ => ⟨c0, by rw [hc]; exact hf, fun _ => ⟨c0, by rw [hc]; exact hf, c0, by rw [hc]; exact hf, trivial⟩, fun _ => trivial⟩⟩⟩, ?_⟩
  obtain ⟨r1, r2, b1, b2, b3, b4, b5, b6, b7, b8⟩ := h
  have mo : ∀ q j, ¬ q = 16 → ¬ q = 17 → ab_up (ab_up m 16 f (nI 1)) 17 f (nI 0) q j = m q j := fun q j e1 e2 => by rw [ab_up_ne e2, ab_up_ne e1]
  obtain ⟨c1, c2⟩ := RMH.rest (x' := (ab_up (ab_up (ab_up x.1 349 f (nI 1)) 350 f (nI 0)) 348 4 (x.1 348 4 + nI 1), x.2)) (m' := ab_up (ab_up m 16 f (nI 1)) 17 f (nI 0)) r1 r2 rfl (fun q j _ hq => by show ab_up _ _ _ _ _ _ = _; rw [ab_up_ne (by omega), ab_up_ne (by omega), ab_up_ne (by omega)]) (fun q j hq => mo q j (by omega) (by omega)) (fun j hj => mo 0 j (by omega) (by omega))
  refine ⟨c1, c2, b1, b2, b3, ?_, b5, b6, b7, b8⟩
  have m16 : ∀ i, ab_up (ab_up m 16 f (nI 1)) 17 f (nI 0) 16 i = ab_up m 16 f (nI 1) 16 i := fun i => ab_up_ne (by decide)
  have hcnt : cnt (fun i => decide (ab_up m 16 f (nI 1) 16 i = 1)) 16 = cnt (fun i => decide (m 16 i = 1)) 16 + 1 := by
    refine cnt_add (f := f) (fun i hi => ?_) ?_ ?_ 16 hf
    · show decide (ab_up m 16 f (nI 1) 16 i = 1) = decide (m 16 i = 1)
      rw [ab_up_nj hi]
    · show decide (m 16 f = 1) = false
      rw [h0]; decide
    · show decide (ab_up m 16 f (nI 1) 16 f = 1) = true
      rw [ab_up_eq]; decide
  show (∀ i, i < 16 → ab_up (ab_up x.1 349 f (nI 1)) 350 f (nI 0) 349 i = ab_up m 16 f (nI 1) 16 i) ∧ (∀ i, i < 16 → ab_up m 16 f (nI 1) 16 i = 1 → ab_up (ab_up x.1 349 f (nI 1)) 350 f (nI 0) 350 i = ab_up (ab_up m 16 f (nI 1)) 17 f (nI 0) 17 i ∧ ∀ b, b < 4 → ¬ m 18 (4 * i + b) < 0 → x.1 351 (4 * i + b) = m 18 (4 * i + b)) ∧ (∀ i, i < 24 → x.1 352 i = m 19 i) ∧ x.1 348 4 + nI 1 = nI (cnt (fun i => decide (ab_up m 16 f (nI 1) 16 i = 1)) 16) ∧ x.1 348 5 = nI (cnt (fun i => decide (m 19 i = 0)) 24)
  refine ⟨fun i hi => ?_, fun i hi hth => ?_, t3, by rw [hcnt, t4, nI_inc], t5⟩
  · rw [ab_up_ne (by decide)]
    by_cases e : i = f
    · subst e; rw [ab_up_eq, ab_up_eq]
    · rw [ab_up_nj e, ab_up_nj e]; exact t1 i hi
  · by_cases e : i = f
    · subst e
      rw [ab_up_eq, ab_up_eq]
      exact ⟨rfl, fun b hb2 z => absurd (hb b hb2) z⟩
    · rw [ab_up_nj e] at hth
      have l1 : ab_up (ab_up x.1 349 f (nI 1)) 350 f (nI 0) 350 i = x.1 350 i := by rw [ab_up_nj e, ab_up_ne (by decide)]
      have l2 : ab_up (ab_up m 16 f (nI 1)) 17 f (nI 0) 17 i = m 17 i := by rw [ab_up_nj e, ab_up_ne (by decide)]
      rw [l1, l2]
      exact t2 i hi hth
theorem leastFree_l {x : xD} {m : mD} {v f : Nat} (h : R3 x m) (ho : iOpe m) (hv : v < 8) (hf : f ≤ 4) (h1 : ∀ j, j < f → ¬ m 14 (4 * (v + 4) + j) < 0) (h2 : f < 4 → m 14 (4 * (v + 4) + f) < 0) : ∀ (n k : Nat), k ≤ f → f - k < n → FX7_leastFree_2 n (nI (v + 4)) k x = (if f < 4 then nI f else -1) ∧ DX7_leastFree_2 n (nI (v + 4)) k x := by
  intro n
  induction n with
  | zero => intro k _ h; omega
  | succ n ih =>
    intro k hk hn
    rw [FX7_leastFree_2, DX7_leastFree_2]
    by_cases e : 4 ≤ k
    · rw [if_pos e, if_neg (show ¬ f < 4 by omega)]
      exact ⟨rfl, by omega, fun _ => trivial, fun z => absurd e z⟩
    · obtain ⟨a1, -, -, -, a5⟩ := at_rel (d := k) h ho hv (by omega)
      rw [if_neg e]
      by_cases hkf : k = f
      · subst hkf
        have s1 : FX7_slot (nI (v + 4)) (nI k) x = -1 := by
          rcases a5 with z | z
          · exact z.2.1
          · exact absurd (h2 (by omega)) (Int32.not_lt.mpr z.1)
        rw [if_pos s1, if_pos (show k < 4 by omega)]
        exact ⟨rfl, by omega, fun z => absurd z e, fun _ => ⟨a1, fun _ => trivial, fun z => absurd s1 z⟩⟩
      · have s1 : ¬ FX7_slot (nI (v + 4)) (nI k) x = -1 := by
          rcases a5 with z | z
          · exact absurd (by rw [z.1]; decide) (h1 k (by omega))
          · rw [z.2.1]; exact nI_ne_m1 _ (by omega)
        obtain ⟨i1, i2⟩ := ih (k + 1) (by omega) (by omega)
        rw [if_neg s1]
        exact ⟨i1, by omega, fun z => absurd z e, fun _ => ⟨a1, fun z => absurd z s1, fun _ => i2⟩⟩
def Fopf (u : Nat) (a : Int32) (f : Nat) (m : mD) : Int32 × mD :=
          if (m 16 ((a).toNatClampNeg)) = 0 then
            if (FfilesThere  m) = (nI (8)) then
              ((-3), m)
            else
              let m31 := ab_up m 16 ((a).toNatClampNeg) (nI (1))
              let m34 := ab_up m31 17 ((a).toNatClampNeg) (nI (0))
              let m36 := ab_up m34 14 ((4 * u) + f) (a)
              let m38 := ab_up m36 15 ((4 * u) + f) (nI (0))
              ((nI (f)), m38)
          else
            let m25 := ab_up m 14 ((4 * u) + f) (a)
            let m27 := ab_up m25 15 ((4 * u) + f) (nI (0))
            ((nI (f)), m27)
theorem Fopens_14_l {m : mD} {v f : Nat} {a : Int32} (hv : v < 8) (ha : ¬ a < 0) (ha2 : a.toNatClampNeg < 16) (hD : DfilesThere m) (hf : f ≤ 4) (h1 : ∀ j, j < f → ¬ m 14 (4 * (v + 4) + j) < 0) (h2 : f < 4 → m 14 (4 * (v + 4) + f) < 0) : ∀ (n k : Nat), k ≤ f → f - k < n → Fopens_14 n (v + 4) a k m = (if f < 4 then Fopf (v + 4) a f m else (-2, m)) ∧ Dopens_14 n (v + 4) a k m := by
  intro n
  induction n with
  | zero => intro k _ h; omega
  | succ n ih =>
    intro k hk hn
    rw [Fopens_14, Dopens_14]
    by_cases e : 4 ≤ k
    · have e4 : k = 4 := by omega
      rw [if_pos e, if_neg (show ¬ f < 4 by omega), if_pos e4]
      exact ⟨rfl, by omega, fun _ => ⟨by omega, fun _ => trivial, fun z => absurd e4 z⟩, fun z => absurd e z⟩
    · have e4 : ¬ k = 4 := by omega
      rw [if_neg e]
      by_cases hkf : k = f
      · subst hkf
        have c := h2 (by omega)
        rw [if_pos c, if_neg e4, if_pos (show k < 4 by omega), Fopf]
        exact ⟨rfl, by omega, fun z => absurd z e, fun _ => ⟨by omega, fun _ => ⟨by omega, fun z => absurd z e4, fun _ => ⟨ha, ha2, fun _ => ⟨hD, fun _ => trivial, fun _ => ⟨ha, ha2, ha, ha2, by omega, by omega, trivial⟩⟩, fun _ => ⟨by omega, by omega, trivial⟩⟩⟩, fun z => absurd c z⟩⟩
      · have c := h1 k (by omega)
        obtain ⟨i1, i2⟩ := ih (k + 1) (by omega) (by omega)
        rw [if_neg c]
        exact ⟨i1, by omega, fun z => absurd z e, fun _ => ⟨by omega, fun z => absurd z c, fun _ => i2⟩⟩
/-- files that aren't there have no blocks; at most 8 are there -/
def iNoB (m : mD) : Prop := (∀ i, i < 16 → m 16 i = 0 → ∀ b, b < 4 → m 18 (4 * i + b) < 0) ∧ cnt (fun i => decide (m 16 i = 1)) 16 ≤ 8
theorem open_rel {x : xD} {m : mD} {v : Nat} {a : Int32} (h : R3 x m) (ho : iOpe m) (hi : iThe m) (hb : iNoB m) (hv : v < 8) : DX3_openFile (nI (v + 4)) a x ∧ Dopens (v + 4) a m ∧ (FX3_openFile (nI (v + 4)) a x).1 = (Fopens (v + 4) a m).1 ∧ R3 (FX3_openFile (nI (v + 4)) a x).2 (Fopens (v + 4) a m).2 ∧ ∀ q j, ¬ (14 ≤ q ∧ q ≤ 17) → (Fopens (v + 4) a m).2 q j = m q j := by
  rw [FX3_openFile, DX3_openFile, Fopens, Dopens]
  by_cases c0 : a < 0
  · rw [if_pos c0, if_pos c0]
    exact ⟨⟨fun _ => trivial, fun z => absurd c0 z⟩, ⟨fun _ => trivial, fun z => absurd c0 z⟩, rfl, h, fun _ _ _ => rfl⟩
  · rw [if_neg c0, if_neg c0]
    by_cases c16 : a < nI 16
    · obtain ⟨g, hg, rfl⟩ := range_of (N := 16) (by decide) c0 (fun w => Int32.lt_irrefl (Int32.lt_of_lt_of_le c16 w))
      have c15 : nI g ≤ nI 15 := nI_le (by omega) (by decide)
      have hcg : (nI g).toNatClampNeg = g := nI_clamp (by omega)
      obtain ⟨f, hf, f1, f2⟩ := first_ex (fun j => m 14 (4 * (v + 4) + j) < 0) 4
      obtain ⟨l1, l2⟩ := leastFree_l h ho hv hf f1 f2 5 0 (by omega) (by omega)
      have l1 : FX7_leastFree (nI (v + 4)) x = (if f < 4 then nI f else -1) := l1
      have l2 : DX7_leastFree (nI (v + 4)) x := l2
      obtain ⟨g1, g2⟩ := files_4 hi 17 0 (by decide) (by decide)
      have g1 : FfilesThere m = nI (cnt (fun i => decide (m 16 i = 1)) 16) := g1
      have g2 : DfilesThere m := g2
      obtain ⟨o1, o2⟩ := Fopens_14_l (a := nI g) hv c0 (by rw [hcg]; exact hg) g2 hf f1 f2 5 0 (by omega) (by omega)
      obtain ⟨k1, k2⟩ := has_rel h hg
      rw [if_pos c16, if_pos c15, o1, l1]
      by_cases hf4 : f < 4
      · have nf : ¬ nI f = -1 := nI_ne_m1 f (by omega)
        have nf' : ¬ (if f < 4 then nI f else -1) = -1 := by rw [if_pos hf4]; exact nf
        obtain ⟨s1, s2⟩ := FX7_set_eq (x := x) (d := f) (f := nI g) (p := nI 0) hv hf4
        rw [if_pos hf4, if_neg nf, if_pos hf4, Fopf, hcg, k1]
        by_cases t0 : m 16 g = 0
        · obtain ⟨mk1, mk2, mk3⟩ := make_rel h hg t0 (hb.1 g hg t0)
          have S := set_rel (f := nI g) (p := nI 0) mk3 hv hf4
          obtain ⟨s3, s4⟩ := FX7_set_eq (x := FX4_make (nI g) x) (d := f) (f := nI g) (p := nI 0) hv hf4
          have hcnt := (rTab_of h).2.2.2.1
          rw [if_pos t0, if_pos t0, if_pos nI00, g1, hcnt]
          have hle := hb.2
          by_cases c8 : cnt (fun i => decide (m 16 i = 1)) 16 = 8
          · have d1 : ¬ nI (cnt (fun i => decide (m 16 i = 1)) 16) < nI 8 := by rw [c8]; decide
            rw [if_neg d1, if_pos (by rw [c8])]
            exact ⟨⟨fun z => absurd z c0, fun _ => ⟨fun _ => ⟨l2, fun z => absurd z nf, fun _ => ⟨k2, fun _ => ⟨fun z => absurd z d1, fun _ => trivial⟩, fun z => absurd nI00 z⟩⟩, fun z => absurd c16 z⟩⟩, ⟨fun z => absurd z c0, fun _ => ⟨fun _ => o2, fun z => absurd c15 z⟩⟩, rfl, h, fun _ _ _ => rfl⟩
          · have d1 : nI (cnt (fun i => decide (m 16 i = 1)) 16) < nI 8 := nI_lt (by omega) (by decide)
            have d2 : ¬ nI (cnt (fun i => decide (m 16 i = 1)) 16) = nI 8 := fun z => c8 ((nI_eq (by omega) (by decide)).mp z)
            rw [if_pos d1, if_neg d2]
            refine ⟨⟨fun z => absurd z c0, fun _ => ⟨fun _ => ⟨l2, fun z => absurd z nf, fun _ => ⟨k2, fun _ => ⟨fun _ => ⟨mk2, s4, trivial⟩, fun z => absurd d1 z⟩, fun z => absurd nI00 z⟩⟩, fun z => absurd c16 z⟩⟩, ⟨fun z => absurd z c0, fun _ => ⟨fun _ => o2, fun z => absurd c15 z⟩⟩, rfl, ?_, fun q j hq => ?_⟩
            · dsimp only
              rw [s3, mk1]
              exact S
            · dsimp only
              rw [ab_up_ne (by omega), ab_up_ne (by omega), ab_up_ne (by omega), ab_up_ne (by omega)]
        · have S := set_rel (f := nI g) (p := nI 0) h hv hf4
          rw [if_neg t0, if_neg t0, if_neg nI10, s1]
          refine ⟨⟨fun z => absurd z c0, fun _ => ⟨fun _ => ⟨l2, fun z => absurd z nf, fun _ => ⟨k2, fun z => absurd z nI10, fun _ => ⟨s2, trivial⟩⟩⟩, fun z => absurd c16 z⟩⟩, ⟨fun z => absurd z c0, fun _ => ⟨fun _ => o2, fun z => absurd c15 z⟩⟩, rfl, S, fun q j hq => ?_⟩
          dsimp only
          rw [ab_up_ne (by omega), ab_up_ne (by omega)]
      · rw [if_neg hf4, if_pos rfl, if_neg hf4]
        exact ⟨⟨fun z => absurd z c0, fun _ => ⟨fun _ => ⟨l2, fun _ => trivial, fun z => absurd rfl z⟩, fun z => absurd c16 z⟩⟩, ⟨fun z => absurd z c0, fun _ => ⟨fun _ => o2, fun z => absurd c15 z⟩⟩, rfl, h, fun _ _ _ => rfl⟩
    · have c15 : ¬ a ≤ nI 15 := fun z => c16 (Int32.lt_of_le_of_lt z (by decide))
      rw [if_neg c16, if_neg c15]
      exact ⟨⟨fun z => absurd z c0, fun _ => ⟨fun z => absurd z c16, fun _ => trivial⟩⟩, ⟨fun z => absurd z c0, fun _ => ⟨fun z => absurd z c15, fun _ => trivial⟩⟩, rfl, h, fun _ _ _ => rfl⟩
