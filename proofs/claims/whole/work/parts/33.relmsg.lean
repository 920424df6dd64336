/-! THE MESSAGES' RELATION between class and reference, and what sending does to it -/
def RM (x : xD) (m : mD) : Prop := rowsOK x.2 ∧ (∀ p, p < 12 → boxR x m p) ∧ (∀ p, p < 12 → x.1 3 p = Flives p m) ∧ x.1 1 4 = m 0 25 ∧ x.1 1 5 = m 0 6 ∧ x.1 1 6 = m 0 7
theorem Flives_congr {p : Nat} {m m' : mD} (h1 : m' 0 23 = m 0 23) (h2 : m' 7 p = m 7 p) : Flives p m' = Flives p m := by
  rw [Flives, Flives, h1, h2]
theorem boxR.congr {x x' : xD} {m m' : mD} {p : Nat} (h : boxR x m p) (hp : p < 12) (hr : rowsOK x.2) (hr2 : ∀ k, k < 12 → x'.2 (8 + 28 * p) k = x.2 (8 + 28 * p) k) (h1 : x'.1 (7 + 28 * p) 1 = x.1 (7 + 28 * p) 1) (h2 : m' 2 p = m 2 p) (h3 : m' 0 40 = m 0 40) (h4 : ∀ a j, 9 + 28 * p ≤ a → a < 33 + 28 * p → x'.1 a j = x.1 a j) (h5 : ∀ i, 156 * p ≤ i → i < 156 * p + 156 → m' 1 i = m 1 i) : boxR x' m' p := by
  obtain ⟨M, hM, e1, e2, e3⟩ := h
  refine ⟨M, hM, h2.trans e1, h1.trans e2, fun k hk => ?_⟩
  have ek : xm x' p k = xm x p k := hr2 k (by omega)
  obtain ⟨i, hi, e⟩ := (hr p hp).1 k (by omega)
  rw [ek, h3]
  have ew : xm x p k = 9 + 28 * p + 2 * i := e
  refine (e3 k hk).congr (fun j _ _ => h4 _ _ (by omega) (by omega)) (fun j _ => h4 _ _ (by omega) (by omega)) (fun j hj => h5 _ (by omega) (by omega))
theorem xPut_o {q t M a j : Nat} {x : xD} (h1 : a ≠ 1) (h2 : a ≠ 7 + 28 * t) (h3 : a ≠ xm x t M) (h4 : a ≠ xm x t M + 1) : (xPut q t M x).1 a j = x.1 a j := by
  show ab_up (xCp (xm x t M) q (ab_up x.1 (7 + 28 * t) 1 (nI (M + 1)))) 1 6 (x.1 1 6 + 1) a j = x.1 a j
  rw [ab_up_ne h1, xCp_o h3 h4, ab_up_ne h2]
theorem mPut_1 {t : Nat} {m : mD} {i : Nat} : mPut t m 1 i = fil m 1 (13 * (12 * t + (m 2 t).toNatClampNeg)) 13 (m 3) 1 i := by
  rw [mPut, ab_up_ne (by decide), ab_up_ne (by decide)]
theorem mPut_o {t : Nat} {m : mD} {a j : Nat} (h0 : ¬ (a = 0 ∧ j = 7)) (h1 : a ≠ 1) (h2 : ¬ (a = 2 ∧ j = t)) : mPut t m a j = m a j := by
  rw [mPut]
  by_cases e0 : a = 0
  · subst e0
    rw [ab_up_nj (fun e => h0 ⟨rfl, e⟩), ab_up_ne (by decide), fil_q (by decide)]
  · rw [ab_up_ne e0]
    by_cases e2 : a = 2
    · subst e2
      rw [ab_up_nj (fun e => h2 ⟨rfl, e⟩), fil_q (by decide)]
    · rw [ab_up_ne e2, fil_q h1]
theorem RM.put {x : xD} {m : mD} {q f t M : Nat} (h : RM x m) (hqm : q = 5 ∨ ∃ p, p < 12 ∧ q = 33 + 28 * p) (ht : t < 12) (hM : M < 12) (hm : m 2 t = nI M) (he : eqM (m 0 40) x.1 q (fun i => if i = 0 then nI f else m 3 i)) : RM (xPut q t M x) (mPut t (ab_up m 3 0 (nI f))) := by
  obtain ⟨hr, hb, hl, h4, h5, h6⟩ := h
  have hc : (nI M).toNatClampNeg = M := nI_clamp (by omega)
  have hm2 : ∀ j, (ab_up m 3 0 (nI f)) 2 j = m 2 j := fun j => ab_up_ne (by decide)
  obtain ⟨i, hi, e⟩ := (hr t ht).1 M hM
  have ew : xm x t M = 9 + 28 * t + 2 * i := e
  have hM' : ((ab_up m 3 0 (nI f)) 2 t).toNatClampNeg = M := by rw [hm2, hm, hc]
  have m1 : ∀ j, mPut t (ab_up m 3 0 (nI f)) 1 j = fil m 1 (13 * (12 * t + M)) 13 (fun i => if i = 0 then nI f else m 3 i) 1 j := by
    intro j
    rw [mPut_1, hM']
    have eg : (ab_up m 3 0 (nI f)) 3 = fun i => if i = 0 then nI f else m 3 i := by
      funext i
      by_cases h : i = 0
      · subst h; rw [ab_up_eq, if_pos rfl]
      · rw [ab_up_nj h, if_neg h]
    rw [eg]
    simp only [fil, ab_up_ne (show (1 : Nat) ≠ 3 by decide)]
  have mo : ∀ a j, ¬ (a = 0 ∧ j = 7) → a ≠ 1 → ¬ (a = 2 ∧ j = t) → a ≠ 3 → mPut t (ab_up m 3 0 (nI f)) a j = m a j := fun a j a1 a2 a3 a4 => (mPut_o a1 a2 a3).trans (ab_up_ne a4)
  refine ⟨hr, fun p hp => ?_, fun p hp => ?_, ?_, ?_, ?_⟩
  · by_cases hpt : p = t
    · subst hpt
      obtain ⟨M0, hM0, e1, e2, e3⟩ := hb p hp
      have eM : M0 = M := by
        have := e1.symm.trans hm
        exact (nI_eq (by omega) (by omega)).mp this
      subst eM
      refine ⟨M0 + 1, by omega, ?_, ?_, fun k hk => ?_⟩
      · rw [mPut, ab_up_ne (by decide), ab_up_eq, hM']
      · show ab_up (xCp (xm x p M0) q (ab_up x.1 (7 + 28 * p) 1 (nI (M0 + 1)))) 1 6 (x.1 1 6 + 1) (7 + 28 * p) 1 = _
        rw [ab_up_ne (by omega), xCp_o (by omega) (by omega), ab_up_eq]
      · rw [mo 0 40 (by omega) (by decide) (by omega) (by decide)]
        by_cases hkM : k = M0
        · subst hkM
          have hx : xm (xPut q p k x) p k = xm x p k := rfl
          rw [hx]
          have c1 : ∀ j, 1 ≤ j → j ≤ 5 → (xPut q p k x).1 (xm x p k) j = x.1 q j := by
            intro j hj1 hj2
            show ab_up (xCp (xm x p k) q (ab_up x.1 (7 + 28 * p) 1 (nI (k + 1)))) 1 6 (x.1 1 6 + 1) (xm x p k) j = _
            rw [ab_up_ne (by omega), xCp_s hj1 hj2, ab_up_ne]
            rcases hqm with rfl | ⟨p2, hp2, rfl⟩ <;> omega
          have g1 : ∀ i, i < 13 → mPut p (ab_up m 3 0 (nI f)) 1 (13 * (12 * p + k) + i) = (fun i => if i = 0 then nI f else m 3 i) i := by
            intro i hi
            rw [m1, fil_in (by omega) (by omega), Nat.add_sub_cancel_left]
          obtain ⟨a1, a2, a3, a4, a5, a6⟩ := he
          refine ⟨?_, ?_, ?_, ?_, ?_, ?_⟩
          · rw [c1 1 (by omega) (by omega), a1]; exact (g1 0 (by omega)).symm
          · rw [c1 2 (by omega) (by omega), a2]; exact (g1 1 (by omega)).symm
          · rw [c1 3 (by omega) (by omega), a3]; exact (g1 2 (by omega)).symm
          · rw [c1 4 (by omega) (by omega), a4]; exact (g1 3 (by omega)).symm
          · rw [c1 5 (by omega) (by omega), a5]; exact (g1 4 (by omega)).symm
          · intro hk2 j hj
            have hk3 : mPut p (ab_up m 3 0 (nI f)) 1 (13 * (12 * p + k) + 1) = 21 ∨ mPut p (ab_up m 3 0 (nI f)) 1 (13 * (12 * p + k) + 1) = 22 ∧ m 0 40 = 20 := hk2
            rw [g1 1 (by omega)] at hk3
            have hq2 : (ab_up x.1 (7 + 28 * p) 1 (nI (k + 1))) q 2 = 21 ∨ (ab_up x.1 (7 + 28 * p) 1 (nI (k + 1))) q 2 = 22 := by
              rw [ab_up_ne (by rcases hqm with rfl | ⟨p2, hp2, rfl⟩ <;> omega), a2]
              rcases hk3 with z | z
              · exact Or.inl z
              · exact Or.inr z.1
            show ab_up (xCp (xm x p k) q (ab_up x.1 (7 + 28 * p) 1 (nI (k + 1)))) 1 6 (x.1 1 6 + 1) (xm x p k + 1) j = _
            rw [ab_up_ne (by omega), xCp_n hq2 hj, ab_up_ne (by rcases hqm with rfl | ⟨p2, hp2, rfl⟩ <;> omega), a6 hk3 j hj]
            exact (g1 (5 + j) (by omega)).symm
        · obtain ⟨i2, hi2, ee⟩ := (hr p hp).1 k (by omega)
          have ew2 : xm x p k = 9 + 28 * p + 2 * i2 := ee
          have hne : xm x p k ≠ xm x p M0 := fun z => hkM ((hr p hp).2 k M0 (by omega) hM z)
          have hx : xm (xPut q p M0 x) p k = xm x p k := rfl
          rw [hx]
          refine (e3 k (by omega)).congr (fun j _ _ => xPut_o (by omega) (by omega) (by omega) (by omega)) (fun j _ => xPut_o (by omega) (by omega) (by omega) (by omega)) (fun j hj => ?_)
          rw [m1]
          exact fil_out (by omega)
    · refine (hb p hp).congr hp hr (fun _ _ => rfl) (xPut_o (by omega) (by omega) (by omega) (by omega)) (mo 2 p (by omega) (by decide) (by omega) (by decide)) (mo 0 40 (by omega) (by decide) (by omega) (by decide)) (fun a j ha hb => xPut_o (by omega) (by omega) (by omega) (by omega)) (fun j hj hj2 => ?_)
      rw [m1]
      exact fil_out (by omega)
  · rw [xPut_o (by decide) (by omega) (by omega) (by omega), Flives_congr (mo 0 23 (by omega) (by decide) (by omega) (by decide)) (mo 7 p (by omega) (by decide) (by omega) (by decide))]
    exact hl p hp
  · show ab_up (xCp (xm x t M) q (ab_up x.1 (7 + 28 * t) 1 (nI (M + 1)))) 1 6 (x.1 1 6 + 1) 1 4 = _
    rw [ab_up_nj (by decide), xCp_o (by omega) (by omega), ab_up_ne (by omega), mo 0 25 (by omega) (by decide) (by omega) (by decide)]
    exact h4
  · show ab_up (xCp (xm x t M) q (ab_up x.1 (7 + 28 * t) 1 (nI (M + 1)))) 1 6 (x.1 1 6 + 1) 1 5 = _
    rw [ab_up_nj (by decide), xCp_o (by omega) (by omega), ab_up_ne (by omega), mo 0 6 (by omega) (by decide) (by omega) (by decide)]
    exact h5
  · show ab_up (xCp (xm x t M) q (ab_up x.1 (7 + 28 * t) 1 (nI (M + 1)))) 1 6 (x.1 1 6 + 1) 1 6 = _
    rw [ab_up_eq, mPut, ab_up_eq, ab_up_ne (by decide), h6]
