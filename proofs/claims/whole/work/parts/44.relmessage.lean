/-! message of the face -/
theorem small5 {w : Int32} (h1 : ¬ w < 0) (h2 : w ≤ nI 4) : w = 0 ∨ w = 1 ∨ w = 2 ∨ w = 3 ∨ w = 4 := by
  rw [ab_nat h1] at h2 ⊢
  have h3 := (nI_leI (Int32.toNatClampNeg_lt w) (by decide)).mp h2
  generalize w.toNatClampNeg = n at h3
  have : n = 0 ∨ n = 1 ∨ n = 2 ∨ n = 3 ∨ n = 4 := by omega
  rcases this with rfl | rfl | rfl | rfl | rfl <;> decide
theorem message_rel {x : xD} {m : mD} {p k w : Int32} (h : R3 x m) : DX10_message p k w x ∧ Dmessage p k w m ∧ (FX10_message p k w x).1 = (Fmessage p k w m).1 ∧ R3 (FX10_message p k w x).2 (Fmessage p k w m).2 := by
  have ht : R3 x (ab_up m 0 0 (nI 0)) := h.thr
  have e : ∀ j, (ab_up m 0 0 (nI 0)) 2 j = m 2 j := fun _ => rfl
  have eF : ∀ a b c, Ffield a b c (ab_up m 0 0 (nI 0)) = m 1 (13 * (12 * a + b) + c) := fun _ _ _ => rfl
  rw [DX10_message, Dmessage, FX10_message, Fmessage, isPart_same]
  dsimp only
  rw [e, eF]
  by_cases c : FisPart p = 0
  · rw [if_pos c, if_pos c]
    exact ⟨⟨fun _ => trivial, fun z => absurd c z⟩, ⟨fun _ => trivial, fun z => absurd c z⟩, rfl, ht⟩
  · rw [if_neg c, if_neg c]
    obtain ⟨n, hn, rfl⟩ := part_of c
    have hc : (nI n).toNatClampNeg = n := nI_clamp (by omega)
    obtain ⟨M, hM, e1, e2, e3⟩ := h.1.2.1 n hn
    have hcM : (nI M).toNatClampNeg = M := nI_clamp (by omega)
    rw [hc, e1, hcM]
    have hp := nI_pos (n := n) (by omega)
    have hM0 := nI_pos (n := M) (by omega)
    have hbox : isX (7 + 28 * n) 0 := isX_box hn
    by_cases ck : k < 0
    · have el : FX0_look (7 + 28 * n) k x = (none, x) := by rw [FX0_look, if_pos ck]
      rw [el, if_pos ck]
      refine ⟨⟨fun z => absurd z c, fun _ => ⟨hp, hn, ⟨fun _ => trivial, fun z => absurd ck z⟩, fun _ => trivial, fun w z => (by cases z)⟩⟩, ⟨fun z => absurd z c, fun _ => ⟨fun _ => trivial, fun z => absurd ck z⟩⟩, rfl, ht⟩
    · rw [if_neg ck]
      by_cases cm : nI M ≤ k
      · have el : FX0_look (7 + 28 * n) k x = (none, x) := by rw [FX0_look, if_neg ck, e2, if_pos cm]
        rw [el, if_pos cm]
        refine ⟨⟨fun z => absurd z c, fun _ => ⟨hp, hn, ⟨fun _ => trivial, fun _ => ⟨hbox, fun _ => trivial, fun z => absurd (by rw [e2]; exact cm) z⟩⟩, fun _ => trivial, fun w z => (by cases z)⟩⟩, ⟨fun z => absurd z c, fun _ => ⟨fun z => absurd z ck, fun _ => ⟨hp, hn, hM0, fun _ => trivial, fun z => absurd cm z⟩⟩⟩, rfl, ht⟩
      · rw [if_neg cm]
        have hk : k = nI k.toNatClampNeg := ab_nat ck
        have hkl : k.toNatClampNeg < M := by
          refine Nat.lt_of_not_le (fun z => cm ?_)
          rw [hk]
          exact nI_le z (Int32.toNatClampNeg_lt k)
        have er : x.2 (7 + 28 * n + 1) k.toNatClampNeg = xm x n k.toNatClampNeg := by
          rw [show 7 + 28 * n + 1 = 8 + 28 * n by omega]
          rfl
        have el : FX0_look (7 + 28 * n) k x = (some (xm x n k.toNatClampNeg), x) := by rw [FX0_look, if_neg ck, e2, if_neg cm, er]
        have hw : isX (xm x n k.toNatClampNeg) 6 := isX_xm h.1.1 hn (by omega)
        obtain ⟨q0, q1, q2, q3, q4, -⟩ := e3 _ hkl
        rw [el]
        dsimp only
        rw [ab_o_s rfl, q0, q1, q2, q3, q4]
        refine ⟨⟨fun z => absurd z c, fun _ => ⟨hp, hn, ⟨fun z => absurd z ck, fun _ => ⟨hbox, fun z => absurd (by rw [← e2]; exact z) cm, fun _ => ⟨ck, by omega, by rw [er]; exact hw, trivial⟩⟩⟩, fun z => (by cases z), fun w6 z => (by cases z; exact ⟨fun _ => ⟨hw, trivial⟩, fun _ => ⟨hw, trivial⟩, fun _ => ⟨hw, trivial⟩, fun _ => ⟨hw, trivial⟩, fun _ => ⟨hw, trivial⟩, fun _ => trivial⟩)⟩⟩, ⟨fun z => absurd z c, fun _ => ⟨fun z => absurd z ck, fun _ => ⟨hp, hn, hM0, fun z => absurd z cm, fun _ => ⟨fun _ => trivial, fun cw => ⟨fun cw4 => ⟨hp, ck, cw, ⟨?_, trivial⟩, trivial⟩, fun _ => trivial⟩⟩⟩⟩⟩, ?_⟩
        · have : w.toNatClampNeg ≤ 4 := by
            rw [ab_nat cw] at cw4
            exact (nI_leI (Int32.toNatClampNeg_lt w) (by decide)).mp cw4
          omega
        · by_cases cw : w < 0
          · have n0 : ¬ w = 0 := fun z => absurd (z ▸ cw) (by decide)
            have n1 : ¬ w = 1 := fun z => absurd (z ▸ cw) (by decide)
            have n2 : ¬ w = 2 := fun z => absurd (z ▸ cw) (by decide)
            have n3 : ¬ w = 3 := fun z => absurd (z ▸ cw) (by decide)
            have n4 : ¬ w = 4 := fun z => absurd (z ▸ cw) (by decide)
            rw [if_pos cw, if_neg n0, if_neg n1, if_neg n2, if_neg n3, if_neg n4]
            exact ⟨rfl, ht⟩
          · rw [if_neg cw]
            by_cases cw4 : w ≤ nI 4
            · rw [if_pos cw4]
              rcases small5 cw cw4 with rfl | rfl | rfl | rfl | rfl
              · rw [if_pos rfl]; exact ⟨rfl, ht⟩
              · rw [if_neg (by decide), if_pos rfl]; exact ⟨rfl, ht⟩
              · rw [if_neg (by decide), if_neg (by decide), if_pos rfl]; exact ⟨rfl, ht⟩
              · rw [if_neg (by decide), if_neg (by decide), if_neg (by decide), if_pos rfl]; exact ⟨rfl, ht⟩
              · rw [if_neg (by decide), if_neg (by decide), if_neg (by decide), if_neg (by decide), if_pos rfl]; exact ⟨rfl, ht⟩
            · have n0 : ¬ w = 0 := fun z => absurd (z ▸ cw4) (by decide)
              have n1 : ¬ w = 1 := fun z => absurd (z ▸ cw4) (by decide)
              have n2 : ¬ w = 2 := fun z => absurd (z ▸ cw4) (by decide)
              have n3 : ¬ w = 3 := fun z => absurd (z ▸ cw4) (by decide)
              have n4 : ¬ w = 4 := fun z => absurd (z ▸ cw4) (by decide)
              rw [if_neg cw4, if_neg n0, if_neg n1, if_neg n2, if_neg n3, if_neg n4]
              exact ⟨rfl, ht⟩
