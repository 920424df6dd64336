/-! descriptor of the face -/
theorem user_of {u : Int32} (h : ¬ FisUser u = 0) : ∃ n, n < 8 ∧ u = nI (n + 4) := by
  rw [FisUser] at h
  by_cases c : u < nI 4
  · rw [if_pos c] at h; exact absurd nI00 h
  · rw [if_neg c] at h
    by_cases c2 : nI 12 ≤ u
    · rw [if_pos c2] at h; exact absurd nI00 h
    · have c0 : ¬ u < 0 := fun z => c (Int32.lt_trans z (by decide))
      have h1 : u = nI u.toNatClampNeg := ab_nat c0
      have h2 : u.toNatClampNeg < 12 := by
        refine Nat.lt_of_not_le (fun z => c2 ?_)
        rw [h1]
        exact nI_le z (Int32.toNatClampNeg_lt u)
      have h3 : 4 ≤ u.toNatClampNeg := by
        refine Nat.le_of_not_lt (fun z => c ?_)
        rw [h1]
        generalize u.toNatClampNeg = n at z
        revert n
        decide
      exact ⟨u.toNatClampNeg - 4, by omega, by rw [show u.toNatClampNeg - 4 + 4 = u.toNatClampNeg by omega]; exact h1⟩
theorem isUser_same {p : Int32} : FX10_isUser p = FisUser p := rfl
theorem slot_m : ∀ n, n < 8 → ∀ d, d < 4 → nI 4 * nI (n + 4) + nI d = nI (4 * (n + 4) + d) := by decide +kernel
theorem slot_x : ∀ n, n < 8 → ∀ d, d < 4 → (nI (n + 4) - nI 4) * nI 4 + nI d = nI (4 * n + d) := by decide +kernel
theorem small4 {w : Int32} (h1 : ¬ w < 0) (h2 : ¬ nI 3 < w) : ∃ d, d < 4 ∧ w = nI d := by
  refine ⟨w.toNatClampNeg, ?_, ab_nat h1⟩
  have h3 : w ≤ nI 3 := Int32.not_lt.mp h2
  rw [ab_nat h1] at h3
  have := (nI_leI (Int32.toNatClampNeg_lt w) (by decide)).mp h3
  omega
/-- open or not: a file's number is -1 or 0 .. 15 -/
def iOpe (m : mD) : Prop := ∀ u d, u < 8 → d < 4 → m 14 (4 * (u + 4) + d) = -1 ∨ ∃ f, f < 16 ∧ m 14 (4 * (u + 4) + d) = nI f
theorem m1_neg : ¬ (0 : Int32) ≤ -1 := by decide
theorem nIf_m1 : ∀ f, f < 16 → ¬ nI f = -1 := by decide +kernel
theorem nI_ne_m1 : ∀ f, f < 48 → ¬ nI f = -1 := by decide +kernel
theorem slot_rel {x : xD} {m : mD} {n d : Nat} (h : R3 x m) (ho : iOpe m) (hn : n < 8) (hd : d < 4) : DX7_slot (nI (n + 4)) (nI d) x ∧ ((m 14 (4 * (n + 4) + d) = -1 ∧ FX7_slot (nI (n + 4)) (nI d) x = -1) ∨ (0 ≤ m 14 (4 * (n + 4) + d) ∧ FX7_slot (nI (n + 4)) (nI d) x = nI (4 * n + d) ∧ x.1 354 (4 * n + d) = m 14 (4 * (n + 4) + d) ∧ x.1 355 (4 * n + d) = m 15 (4 * (n + 4) + d))) := by
  have hu : ¬ FX10_isUser (nI (n + 4)) = 0 := fun z => by have := (isUserX_z (n + 4) (by omega)).mp z; omega
  have d0 : ¬ nI d < 0 := nI_pos (by omega)
  have d4 : nI d < nI 4 := (by decide +kernel : ∀ d, d < 4 → nI d < nI 4) d hd
  have hc : (nI (4 * n + d)).toNatClampNeg = 4 * n + d := nI_clamp (by omega)
  obtain ⟨q1, q2⟩ : x.1 354 (4 * n + d) = m 14 (4 * (n + 4) + d) ∧ (¬ m 14 (4 * (n + 4) + d) < 0 → x.1 355 (4 * n + d) = m 15 (4 * (n + 4) + d)) := h.2.2.2.2.2.2.1 n d hn hd
  rw [FX7_slot, DX7_slot, slot_x n hn d hd, hc, if_neg hu, if_neg d0, if_pos d4, q1]
  refine ⟨⟨fun z => absurd z hu, fun _ => ⟨fun z => absurd z d0, fun _ => ⟨fun _ => ⟨nI_pos (by omega), by omega, trivial⟩, fun _ => trivial⟩⟩⟩, ?_⟩
  rcases ho n d hn hd with e | ⟨f, hf, e⟩
  · rw [if_pos e]
    exact Or.inl ⟨e, rfl⟩
  · have hne : ¬ m 14 (4 * (n + 4) + d) = -1 := by rw [e]; exact nIf_m1 f hf
    rw [if_neg hne]
    have hl : ¬ m 14 (4 * (n + 4) + d) < 0 := by rw [e]; exact nI_pos (by omega)
    refine Or.inr ⟨by rw [e]; exact nI_pos' (by omega), rfl, rfl, q2 hl⟩
theorem descriptor_rel {x : xD} {m : mD} {u d w : Int32} (h : R3 x m) (ho : iOpe m) : DX10_descriptor u d w x ∧ Ddescriptor u d w m ∧ (FX10_descriptor u d w x).1 = (Fdescriptor u d w m).1 ∧ R3 (FX10_descriptor u d w x).2 (Fdescriptor u d w m).2 := by
  have ht : R3 x (ab_up m 0 0 (nI 0)) := h.thr
  have e14 : ∀ j, (ab_up m 0 0 (nI 0)) 14 j = m 14 j := fun _ => rfl
  have e15 : ∀ j, (ab_up m 0 0 (nI 0)) 15 j = m 15 j := fun _ => rfl
  have ex2 : (FX10_descriptor u d w x).2 = x := by
    rw [FX10_descriptor]
    by_cases c : w = 0
    · rw [if_pos c]
    · rw [if_neg c]
      by_cases c : w = 1
      · rw [if_pos c]
      · rw [if_neg c]
  have em2 : (Fdescriptor u d w m).2 = ab_up m 0 0 (nI 0) := by
    rw [Fdescriptor]
    split <;> try rfl
    split <;> try rfl
    split <;> try rfl
    split <;> try rfl
    split <;> try rfl
    split <;> rfl
  rw [ex2, em2]
  have key : (FX7_slot u d x = -1 ∧ DX7_slot u d x ∧ Ddescriptor u d w m ∧ (Fdescriptor u d w m).1 = -1) ∨ (∃ s, s < 32 ∧ FX7_slot u d x = nI s ∧ DX7_slot u d x ∧ Ddescriptor u d w m ∧ (Fdescriptor u d w m).1 = if w = 0 then x.1 354 s else if w = nI 1 then x.1 355 s else -1) := by
    rw [Fdescriptor, Ddescriptor]
    rw [e14, e15]
    by_cases cu : FisUser u = 0
    · rw [if_pos cu]
      exact Or.inl ⟨by rw [FX7_slot, isUser_same, if_pos cu], ⟨fun _ => trivial, fun z => absurd cu z⟩, ⟨fun _ => trivial, fun z => absurd cu z⟩, rfl⟩
    · rw [if_neg cu]
      by_cases c0 : d < 0
      · rw [if_pos c0]
        exact Or.inl ⟨by rw [FX7_slot, isUser_same, if_neg cu, if_pos c0], ⟨fun z => absurd z cu, fun _ => ⟨fun _ => trivial, fun z => absurd c0 z⟩⟩, ⟨fun z => absurd z cu, fun _ => ⟨fun _ => trivial, fun z => absurd c0 z⟩⟩, rfl⟩
      · rw [if_neg c0]
        by_cases c3 : nI 3 < d
        · have c4 : ¬ d < nI 4 := by
            intro z
            rw [ab_nat c0] at z c3
            have z1 := Int32.lt_iff_toInt_lt.mp z
            have z2 := Int32.lt_iff_toInt_lt.mp c3
            rw [nI_toInt (Int32.toNatClampNeg_lt d), nI_toInt (by decide)] at z1
            rw [nI_toInt (Int32.toNatClampNeg_lt d), nI_toInt (by decide)] at z2
            omega
          rw [if_pos c3]
          exact Or.inl ⟨by rw [FX7_slot, isUser_same, if_neg cu, if_neg c0, if_neg c4], ⟨fun z => absurd z cu, fun _ => ⟨fun z => absurd z c0, fun _ => ⟨fun z => absurd z c4, fun _ => trivial⟩⟩⟩, ⟨fun z => absurd z cu, fun _ => ⟨fun z => absurd z c0, fun _ => ⟨fun _ => trivial, fun z => absurd c3 z⟩⟩⟩, rfl⟩
        · rw [if_neg c3]
          obtain ⟨n, hn, rfl⟩ := user_of cu
          obtain ⟨k, hk, rfl⟩ := small4 c0 c3
          have hc : (nI (4 * (n + 4) + k)).toNatClampNeg = 4 * (n + 4) + k := nI_clamp (by omega)
          obtain ⟨s1, s2⟩ := slot_rel h ho hn hk
          rw [slot_m n hn k hk, hc]
          have hp : ¬ nI (4 * (n + 4) + k) < 0 := nI_pos (by omega)
          have hl : 4 * (n + 4) + k < 48 := by omega
          have D : (FisUser (nI (n + 4)) = 0 → True) ∧ (¬ FisUser (nI (n + 4)) = 0 → (nI k < 0 → True) ∧ (¬ nI k < 0 → (nI 3 < nI k → True) ∧ (¬ nI 3 < nI k → ¬ nI (4 * (n + 4) + k) < 0 ∧ 4 * (n + 4) + k < 48 ∧ (0 ≤ m 14 (4 * (n + 4) + k) → (w = 0 → ¬ nI (4 * (n + 4) + k) < 0 ∧ 4 * (n + 4) + k < 48 ∧ True) ∧ (¬ w = 0 → (w = nI 1 → ¬ nI (4 * (n + 4) + k) < 0 ∧ 4 * (n + 4) + k < 48 ∧ True) ∧ (¬ w = nI 1 → True))) ∧ (¬ 0 ≤ m 14 (4 * (n + 4) + k) → True)))) := ⟨fun _ => trivial, fun _ => ⟨fun _ => trivial, fun _ => ⟨fun _ => trivial, fun _ => ⟨hp, hl, fun _ => ⟨fun _ => ⟨hp, hl, trivial⟩, fun _ => ⟨fun _ => ⟨hp, hl, trivial⟩, fun _ => trivial⟩⟩, fun _ => trivial⟩⟩⟩⟩
          rcases s2 with ⟨g1, g2⟩ | ⟨g1, g2, g3, g4⟩
          · have hg : ¬ (0 : Int32) ≤ m 14 (4 * (n + 4) + k) := by rw [g1]; exact m1_neg
            rw [if_neg hg]
            exact Or.inl ⟨g2, s1, D, rfl⟩
          · rw [if_pos g1]
            refine Or.inr ⟨4 * n + k, by omega, g2, s1, D, ?_⟩
            rw [g3, g4]
            by_cases c : w = 0
            · rw [if_pos c, if_pos c]
            · rw [if_neg c, if_neg c]
              by_cases c : w = nI 1
              · rw [if_pos c, if_pos c]
              · rw [if_neg c, if_neg c]
  have n10 : ¬ (1 : Int32) = 0 := by decide
  rcases key with ⟨k1, k2, k3, k4⟩ | ⟨s, hs, k1, k2, k3, k4⟩
  · refine ⟨⟨fun _ => ⟨⟨k2, fun _ => trivial, fun z => absurd k1 z⟩, trivial⟩, fun _ => ⟨⟨k2, fun _ => trivial, fun z => absurd k1 z⟩, trivial⟩, fun _ => trivial⟩, k3, ?_, ht⟩
    rw [k4, FX10_descriptor, FX7_fileAt, FX7_placeAt, if_pos k1, if_pos k1]
    by_cases c : w = 0
    · rw [if_pos c]
    · rw [if_neg c]
      by_cases c : w = 1
      · rw [if_pos c]
      · rw [if_neg c]
  · have hne : ¬ FX7_slot u d x = -1 := by rw [k1]; exact nI_ne_m1 s (by omega)
    have hc : (nI s).toNatClampNeg = s := nI_clamp (by omega)
    have dd : ¬ FX7_slot u d x < 0 ∧ (FX7_slot u d x).toNatClampNeg < 32 ∧ True := by rw [k1, hc]; exact ⟨nI_pos (by omega), hs, trivial⟩
    refine ⟨⟨fun _ => ⟨⟨k2, fun _ => trivial, fun _ => dd⟩, trivial⟩, fun _ => ⟨⟨k2, fun _ => trivial, fun _ => dd⟩, trivial⟩, fun _ => trivial⟩, k3, ?_, ht⟩
    rw [k4, FX10_descriptor, FX7_fileAt, FX7_placeAt, if_neg hne, if_neg hne, k1, hc]
    have e1 : nI 1 = 1 := by decide
    rw [e1]
    by_cases c : w = 0
    · rw [if_pos c, if_pos c]
    · rw [if_neg c, if_neg c]
      by_cases c : w = 1
      · rw [if_pos c, if_pos c]
      · rw [if_neg c, if_neg c]
