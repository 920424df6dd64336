/-! user of the face: where it answers, and where the reference says that it throws -/
def uEnd (u w a : Int32) (m : mD) : Int32 × mD := Fuser_40 1 u w a 4 m
theorem Fuser_40_end {n : Nat} {u w a : Int32} {m : mD} : Fuser_40 (n + 1) u w a 4 m = uEnd u w a m := by
  rw [uEnd, Fuser_40, Fuser_40, if_pos (Nat.le_refl 4), if_pos (Nat.le_refl 4)]
theorem uEnd_2 {u w a : Int32} {m : mD} : (uEnd u w a m).2 = m := by
  rw [uEnd, Fuser_40, if_pos (Nat.le_refl 4)]
  simp only [apply_ite Prod.snd, ite_self]
theorem user_40 {x : xD} {m : mD} {w : Int32} {v : Nat} (h : R3 x m) (ho : iOpe m) (hv : v < 8) : ∀ (n n' k : Nat) (a : Int32), k ≤ 4 → 4 - k < n → 4 - k < n' → Fuser_40 n (nI (v + 4)) w a k m = uEnd (nI (v + 4)) w (FX7_howMany_4 n' (nI (v + 4)) a k x) m ∧ Duser_40 n (nI (v + 4)) w a k m ∧ DX7_howMany_4 n' (nI (v + 4)) a k x := by
  have hcl : (nI (v + 4)).toNatClampNeg = v + 4 := nI_clamp (by omega)
  have pu := nI_pos (n := v + 4) (by omega)
  have hu : v + 4 < 12 := by omega
  intro n
  induction n with
  | zero => intro n' k a _ h; omega
  | succ n ih =>
    intro n' k a hk hn hn'
    obtain ⟨q, rfl⟩ : ∃ q, n' = q + 1 := ⟨n' - 1, by omega⟩
    by_cases e : k = 4
    · subst e
      rw [Fuser_40_end, FX7_howMany_4, if_pos (Nat.le_refl 4), Duser_40, hcl]
      exact ⟨rfl, ⟨by decide, fun _ => ⟨fun _ => ⟨pu, hu, trivial⟩, fun _ => ⟨pu, hu, trivial⟩, fun _ => ⟨pu, hu, trivial⟩, fun _ => ⟨pu, hu, trivial⟩, fun _ => ⟨pu, hu, trivial⟩, fun _ => ⟨pu, hu, trivial⟩, fun _ => trivial⟩, fun z => absurd (by decide) z⟩, ⟨by decide, fun _ => trivial, fun z => absurd (by decide) z⟩⟩
    · have e2 : ¬ 4 ≤ k := by omega
      have hk4 : k < 4 := by omega
      obtain ⟨i1, i2, i3⟩ := ih q (k + 1) (a + nI 1) (by omega) (by omega) (by omega)
      obtain ⟨j1, j2, j3⟩ := ih q (k + 1) (a + nI 0) (by omega) (by omega) (by omega)
      obtain ⟨s1, s2⟩ := slot_rel h ho hv hk4
      have hc : (nI (4 * (v + 4) + k)).toNatClampNeg = 4 * (v + 4) + k := nI_clamp (by omega)
      rw [Fuser_40, FX7_howMany_4, Duser_40, if_neg e2, if_neg e2, slot_m v hv k hk4, hc]
      refine ⟨?_, ⟨by omega, fun z => absurd z e2, fun _ => ⟨nI_pos (by omega), by omega, fun _ => j2, fun _ => i2⟩⟩, ⟨by omega, fun z => absurd z e2, fun _ => ⟨s1, fun _ => j3, fun _ => i3⟩⟩⟩
      rcases s2 with ⟨g1, g2⟩ | ⟨g1, g2, -, -⟩
      · have g3 : m 14 (4 * (v + 4) + k) < 0 := by rw [g1]; decide
        rw [if_pos g2, if_pos g3]
        exact j1
      · have g3 : ¬ FX7_slot (nI (v + 4)) (nI k) x = -1 := by rw [g2]; exact nI_ne_m1 _ (by omega)
        have g4 : ¬ m 14 (4 * (v + 4) + k) < 0 := Int32.not_lt.mpr g1
        rw [if_neg g3, if_neg g4]
        exact i1
/-- the states of users -/
def iSta (m : mD) : Prop := ∀ u, u < 12 → 4 ≤ u → m 7 u = 0 ∨ m 7 u = 1 ∨ m 7 u = 2
def uThrow (u w : Int32) : Prop := FisUser u = 0 ∨ w < 0 ∨ nI 6 < w
theorem user_no {x : xD} {m : mD} {u w : Int32} (h : R3 x m) (hn : uThrow u w) : Duser u w m ∧ R3 x (Fuser u w m).2 ∧ (Fuser u w m).2 0 0 = 1 := by
  have ht : R3 x (ab_up m 0 0 (nI 1)) := h.thr
  have e0 : ¬ (ab_up m 0 0 (nI 1)) 0 0 ≤ 0 := by rw [ab_up_eq]; decide
  have e01 : (ab_up m 0 0 (nI 1)) 0 0 = 1 := by rw [ab_up_eq]; decide
  rw [Fuser, Duser]
  by_cases c1 : FisUser u = 0
  · rw [if_pos c1, if_neg e0]
    exact ⟨⟨fun _ => ⟨fun z => absurd z e0, fun _ => trivial⟩, fun z => absurd c1 z⟩, ht, e01⟩
  · rw [if_neg c1]
    by_cases c2 : w < 0
    · rw [if_pos c2, if_neg e0]
      exact ⟨⟨fun z => absurd z c1, fun _ => ⟨fun _ => ⟨fun z => absurd z e0, fun _ => trivial⟩, fun z => absurd c2 z⟩⟩, ht, e01⟩
    · have c3 : nI 6 < w := by
        rcases hn with z | z | z
        · exact absurd z c1
        · exact absurd z c2
        · exact z
      rw [if_neg c2, if_pos c3, if_neg e0]
      exact ⟨⟨fun z => absurd z c1, fun _ => ⟨fun z => absurd z c2, fun _ => ⟨fun _ => ⟨fun z => absurd z e0, fun _ => trivial⟩, fun z => absurd c3 z⟩⟩⟩, ht, e01⟩
