/-! file of the face -/
theorem fi_toInt (w : Int32) : (w.toInt64 - 1).toInt = w.toInt - 1 := by
  have h1 := Int32.le_toInt w
  have h2 := Int32.toInt_lt w
  rw [Int64.toInt_sub, Int32.toInt_toInt64, show (1 : Int64).toInt = 1 by decide]
  exact Int.bmod_eq_of_le (by omega) (by omega)
theorem fi_A : ∀ b, b < 4 → ¬ lg_cmp ((nI (b + 1)).toInt64 - 1) 0 < 0 ∧ ¬ 0 ≤ lg_cmp ((nI (b + 1)).toInt64 - 1) 4 := by decide +kernel
theorem fi_B : ∀ b, b < 4 → ((nI (b + 1)).toInt64 - 1) * 8 = (nI (8 * b)).toInt64 := by decide +kernel
theorem fi_C : ∀ b, b < 4 → nI 8 * (nI (b + 1) - nI 1) = nI (8 * b) := by decide +kernel
theorem fi_D : ∀ n, n < 16 → ∀ b, b < 4 → nI n * nI 4 + ((nI (b + 1)).toInt64 - 1).toInt32 = nI (4 * n + b) := by decide +kernel
theorem fi_E : ∀ n, n < 16 → ∀ b, b < 4 → nI 4 * nI n + nI (b + 1) - nI 1 = nI (4 * n + b) := by decide +kernel
theorem fi_F {a b : Int32} : lg_cmp a.toInt64 b.toInt64 < 0 ↔ ¬ b ≤ a := by
  rw [lg_cmp_lt, Int64.lt_iff_toInt_lt, Int32.toInt_toInt64, Int32.toInt_toInt64, Int32.le_iff_toInt_le]
  omega
/-- a file is there or not -/
def iThe (m : mD) : Prop := ∀ i, i < 16 → m 16 i = 0 ∨ m 16 i = 1
def iBlk (m : mD) : Prop := ∀ i, i < 16 → m 16 i = 1 → ∀ b, b < 4 → nI (8 * b) < m 17 i → ¬ m 18 (4 * i + b) < 0
theorem file_rel {x : xD} {m : mD} {a w : Int32} (h : R3 x m) (hi : iThe m) (hib : iBlk m) : DX10_file a w x ∧ Dfile a w m ∧ (FX10_file a w x).1 = (Ffile a w m).1 ∧ R3 (FX10_file a w x).2 (Ffile a w m).2 := by
  have ht : R3 x (ab_up m 0 0 (nI 0)) := h.thr
  have e16 : ∀ j, (ab_up m 0 0 (nI 0)) 16 j = m 16 j := fun _ => rfl
  have e17 : ∀ j, (ab_up m 0 0 (nI 0)) 17 j = m 17 j := fun _ => rfl
  have e18 : ∀ j, (ab_up m 0 0 (nI 0)) 18 j = m 18 j := fun _ => rfl
  have ex2 : (FX10_file a w x).2 = x := by
    rw [FX10_file]
    split <;> rfl
  have em2 : (Ffile a w m).2 = ab_up m 0 0 (nI 0) := by
    rw [Ffile]
    split <;> try rfl
    split <;> try rfl
    split <;> try rfl
    split <;> try rfl
    split <;> try rfl
    split <;> try rfl
    split <;> rfl
  rw [ex2, em2]
  obtain ⟨t1, t2, -⟩ : (∀ i, i < 16 → x.1 349 i = m 16 i) ∧ (∀ i, i < 16 → m 16 i = 1 → x.1 350 i = m 17 i ∧ ∀ b, b < 4 → ¬ m 18 (4 * i + b) < 0 → x.1 351 (4 * i + b) = m 18 (4 * i + b)) ∧ True := ⟨h.2.2.2.2.2.1.1, h.2.2.2.2.2.1.2.1, trivial⟩
  rw [Ffile, Dfile, DX10_file, FX10_file, e16, e17, e18]
  have none_ : FX4_has a x = 0 → DX4_has a x → ((w = 0 → DX4_sizeOf a x ∧ True) ∧ (¬ w = 0 → DX4_blockOf a (w.toInt64 - 1) x ∧ True)) ∧ (if w = 0 then (FX4_sizeOf a x, x) else (FX4_blockOf a (w.toInt64 - 1) x, x)).1 = -1 := fun h0 hd => by
    refine ⟨⟨fun _ => ⟨⟨hd, fun _ => trivial, fun z => absurd h0 z⟩, trivial⟩, fun _ => ⟨⟨hd, fun _ => trivial, fun z => absurd h0 z⟩, trivial⟩⟩, ?_⟩
    rw [FX4_sizeOf, FX4_blockOf, if_pos h0, if_pos h0]
    split <;> rfl
  by_cases c0 : a < 0
  · obtain ⟨n1, n2⟩ := none_ (by rw [FX4_has, if_pos c0]; exact nI00) ⟨fun _ => trivial, fun z => absurd c0 z⟩
    rw [if_pos c0]
    exact ⟨n1, ⟨fun _ => trivial, fun z => absurd c0 z⟩, n2, ht⟩
  · rw [if_neg c0]
    have ha : a = nI a.toNatClampNeg := ab_nat c0
    by_cases c15 : nI 15 < a
    · have c16 : nI 16 ≤ a := by
        rw [ha] at c15 ⊢
        have z := Int32.lt_iff_toInt_lt.mp c15
        rw [nI_toInt (Int32.toNatClampNeg_lt a), nI_toInt (by decide)] at z
        exact nI_le (by omega) (Int32.toNatClampNeg_lt a)
      obtain ⟨n1, n2⟩ := none_ (by rw [FX4_has, if_neg c0, if_pos c16]; exact nI00) ⟨fun _ => trivial, fun _ => ⟨fun _ => trivial, fun z => absurd c16 z⟩⟩
      rw [if_pos c15]
      exact ⟨n1, ⟨fun _ => trivial, fun _ => ⟨fun _ => trivial, fun z => absurd c15 z⟩⟩, n2, ht⟩
    · have hn : a.toNatClampNeg < 16 := by
        have c15 : a ≤ nI 15 := Int32.not_lt.mp c15
        rw [ha] at c15
        have := (nI_leI (Int32.toNatClampNeg_lt a) (by decide)).mp c15
        omega
      have c16 : ¬ nI 16 ≤ a := by
        intro z
        rw [ha] at z
        have := (nI_leI (by decide) (Int32.toNatClampNeg_lt a)).mp z
        omega
      rw [if_neg c15]
      have dh : DX4_has a x := ⟨fun z => absurd z c0, fun _ => ⟨fun z => absurd z c16, fun _ => ⟨c0, hn, trivial⟩⟩⟩
      rcases hi _ hn with hz | hz
      · obtain ⟨n1, n2⟩ := none_ (by rw [FX4_has, if_neg c0, if_neg c16, t1 _ hn, if_pos hz]; exact nI00) dh
        rw [if_pos hz]
        exact ⟨n1, ⟨fun z => absurd z c0, fun _ => ⟨fun z => absurd z c15, fun _ => ⟨c0, hn, fun _ => trivial, fun z => absurd hz z⟩⟩⟩, n2, ht⟩
      · have hz0 : ¬ m 16 a.toNatClampNeg = 0 := by rw [hz]; decide
        have hh : ¬ FX4_has a x = 0 := by rw [FX4_has, if_neg c0, if_neg c16, t1 _ hn, if_neg hz0]; exact nI10
        obtain ⟨u1, u2⟩ := t2 _ hn hz
        rw [if_neg hz0, FX4_sizeOf, FX4_blockOf, if_neg hh, if_neg hh, u1]
        have dsz : DX4_sizeOf a x := ⟨dh, fun _ => trivial, fun _ => ⟨c0, hn, trivial⟩⟩
        have out : ∀ P : Prop, (DX4_blockOf a (w.toInt64 - 1) x) → ((w = 0 → DX4_sizeOf a x ∧ True) ∧ (¬ w = 0 → DX4_blockOf a (w.toInt64 - 1) x ∧ True)) := fun _ hb => ⟨fun _ => ⟨dsz, trivial⟩, fun _ => ⟨hb, trivial⟩⟩
        by_cases w0 : w < 0
        · have hw : ¬ w = 0 := fun z => absurd (z ▸ w0) (by decide)
          have hl : lg_cmp (w.toInt64 - 1) 0 < 0 := by
            rw [lg_cmp_lt, Int64.lt_iff_toInt_lt, fi_toInt]
            have z := Int32.lt_iff_toInt_lt.mp w0
            have z1 : (0 : Int32).toInt = 0 := by decide
            have z2 : (0 : Int64).toInt = 0 := by decide
            omega
          rw [if_pos w0, if_neg hw, if_pos hl]
          exact ⟨out True ⟨dh, fun _ => trivial, fun _ => ⟨fun _ => trivial, fun z => absurd hl z⟩⟩, ⟨fun z => absurd z c0, fun _ => ⟨fun z => absurd z c15, fun _ => ⟨c0, hn, fun z => absurd z hz0, fun _ => ⟨fun _ => trivial, fun z => absurd w0 z⟩⟩⟩⟩, rfl, ht⟩
        · rw [if_neg w0]
          by_cases w4 : w ≤ nI 4
          · rw [if_pos w4]
            by_cases hw : w = 0
            · rw [if_pos hw, if_pos hw]
              exact ⟨⟨fun _ => ⟨dsz, trivial⟩, fun z => absurd hw z⟩, ⟨fun z => absurd z c0, fun _ => ⟨fun z => absurd z c15, fun _ => ⟨c0, hn, fun z => absurd z hz0, fun _ => ⟨fun z => absurd z w0, fun _ => ⟨fun _ => ⟨fun _ => ⟨c0, hn, trivial⟩, fun z => absurd hw z⟩, fun z => absurd w4 z⟩⟩⟩⟩⟩, rfl, ht⟩
            · rw [if_neg hw, if_neg hw]
              obtain ⟨b, hb, rfl⟩ : ∃ b, b < 4 ∧ w = nI (b + 1) := by
                rcases small5 w0 w4 with z | z | z | z | z
                · exact absurd z hw
                · exact ⟨0, by decide, z⟩
                · exact ⟨1, by decide, z⟩
                · exact ⟨2, by decide, z⟩
                · exact ⟨3, by decide, z⟩
              obtain ⟨f1, f2⟩ := fi_A b hb
              have hcl : (nI (4 * a.toNatClampNeg + b)).toNatClampNeg = 4 * a.toNatClampNeg + b := nI_clamp (by omega)
              have d1 : a * nI 4 + ((nI (b + 1)).toInt64 - 1).toInt32 = nI (4 * a.toNatClampNeg + b) := by
                have := fi_D _ hn b hb
                rw [← ha] at this
                exact this
              have d2 : nI 4 * a + nI (b + 1) - nI 1 = nI (4 * a.toNatClampNeg + b) := by
                have := fi_E _ hn b hb
                rw [← ha] at this
                exact this
              have hpos : ¬ nI (4 * a.toNatClampNeg + b) < 0 := nI_pos (by omega)
              rw [if_neg f1, if_neg f2, fi_B b hb, fi_C b hb, d1, d2, hcl]
              have DB : DX4_blockOf a ((nI (b + 1)).toInt64 - 1) x := ⟨dh, fun _ => trivial, fun _ => ⟨fun z => absurd z f1, fun _ => ⟨fun z => absurd z f2, fun _ => ⟨c0, hn, fun _ => (by rw [d1, hcl]; exact ⟨hpos, by omega, trivial⟩), fun _ => trivial⟩⟩⟩⟩
              refine ⟨out True DB, ⟨fun z => absurd z c0, fun _ => ⟨fun z => absurd z c15, fun _ => ⟨c0, hn, fun z => absurd z hz0, fun _ => ⟨fun z => absurd z w0, fun _ => ⟨fun _ => ⟨fun z => absurd z hw, fun _ => ⟨c0, hn, fun _ => trivial, fun _ => ⟨hpos, by omega, trivial⟩⟩⟩, fun z => absurd w4 z⟩⟩⟩⟩⟩, ?_, ht⟩
              by_cases cs : m 17 a.toNatClampNeg ≤ nI (8 * b)
              · rw [if_neg (fun z => fi_F.mp z cs), if_pos cs]
              · rw [if_pos (fi_F.mpr cs), if_neg cs]
                exact u2 b hb (hib _ hn hz b hb (Int32.not_le.mp cs))
          · have hw : ¬ w = 0 := fun z => absurd (z ▸ w4) (by decide)
            have z := Int32.lt_iff_toInt_lt.mp (Int32.not_le.mp w4)
            rw [nI_toInt (by decide)] at z
            have z3 : (4 : Int64).toInt = 4 := by decide
            have z2 : (0 : Int64).toInt = 0 := by decide
            have hl : ¬ lg_cmp (w.toInt64 - 1) 0 < 0 := by
              rw [lg_cmp_lt, Int64.lt_iff_toInt_lt, fi_toInt]
              omega
            have hg : 0 ≤ lg_cmp (w.toInt64 - 1) 4 := by
              rw [lg_cmp_ge, Int64.le_iff_toInt_le, fi_toInt]
              omega
            rw [if_neg w4, if_neg hw, if_neg hl, if_pos hg]
            exact ⟨out True ⟨dh, fun _ => trivial, fun _ => ⟨fun z => absurd z hl, fun _ => ⟨fun _ => trivial, fun z => absurd hg z⟩⟩⟩, ⟨fun z => absurd z c0, fun _ => ⟨fun z => absurd z c15, fun _ => ⟨c0, hn, fun z => absurd z hz0, fun _ => ⟨fun z => absurd z w0, fun _ => ⟨fun z => absurd z w4, fun _ => trivial⟩⟩⟩⟩⟩, rfl, ht⟩
