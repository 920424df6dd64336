/-! THE INVARIANT, XVII: call, force -/
theorem Inv.forceF {S : Nat} {m : mD} {f t : Int32} (h : Inv S m) : Inv S (Fforce f t m).2 := by
  have H := h.thr (v := nI 0)
  rw [Fforce]
  dsimp only
  by_cases c1 : FisPart f = 0
  · rw [if_pos c1]; exact H
  · rw [if_neg c1]
    by_cases c2 : FisPart t = 0
    · rw [if_pos c2]; exact H
    · obtain ⟨p, hp, rfl⟩ := part_of c1
      obtain ⟨q, hq, rfl⟩ := part_of c2
      rw [if_neg c2, nI_clamp (show p < 2 ^ 31 by omega), nI_clamp (show q < 2 ^ 31 by omega)]
      by_cases c3 : Flives p (ab_up m 0 0 (nI 0)) = 0
      · rw [if_pos c3]; exact H
      · rw [if_neg c3]
        exact H.send1 hp hq (okS_0 rfl) (by decide)
theorem twelve {k : Int32} (h1 : ¬ k < nI 1) (h2 : k ≤ nI 12) : ∃ j, 1 ≤ j ∧ j ≤ 12 ∧ k = nI j := by
  have p : ¬ k < 0 := fun z => h1 (Int32.lt_trans z (by decide))
  obtain ⟨j, hj, rfl⟩ := nI_of p
  have l2 := (nI_leI (by omega) (by decide)).mp h2
  refine ⟨j, ?_, l2, rfl⟩
  apply Classical.byContradiction
  intro z
  exact h1 (nI_lt (by omega) (by decide))
theorem Inv.callF {S : Nat} {m : mD} {u k a b : Int32} (h : Inv S m) : Inv S (Fcall u k a b m).2 := by
  have H := h.thr (v := nI 0)
  rw [Fcall]
  dsimp only
  by_cases c1 : FisUser u = 0
  · rw [if_pos c1]; exact H
  · obtain ⟨v, hv, rfl⟩ := user_of c1
    rw [if_neg c1, nI_clamp (show v + 4 < 2 ^ 31 by omega)]
    generalize ab_up m 0 0 (nI 0) = n at *
    by_cases c2 : n 7 (v + 4) = nI 1
    · rw [if_pos c2]
      by_cases c3 : n 8 (v + 4) = 0
      · rw [if_pos c3]
        by_cases c4 : k < nI 1
        · rw [if_pos c4]; exact H
        · rw [if_neg c4]
          by_cases c5 : k ≤ nI 12
          · rw [if_pos c5]
            obtain ⟨j, j1, j12, rfl⟩ := twelve c4 c5
            have nk : ¬ nI j = nI 20 ∧ ¬ nI j = nI 21 ∧ ¬ nI j = nI 22 ∧ ¬ nI j = nI 42 := by
              refine ⟨fun z => ?_, fun z => ?_, fun z => ?_, fun z => ?_⟩
              · have := (nI_eq (by omega) (by decide)).mp z; omega
              · have := (nI_eq (by omega) (by decide)).mp z; omega
              · have := (nI_eq (by omega) (by decide)).mp z; omega
              · have := (nI_eq (by omega) (by decide)).mp z; omega
            have set8 : ∀ (x : mD) (w : Int32), Inv S x → Inv S (ab_up x 8 (v + 4) w) := fun x w hx => hx.fr (Nat.le_refl _) (fun q i hq => ab_up_ne (by omega)) (fun i _ => ab_up_ne (by decide))
            by_cases c8 : nI 8 ≤ nI j
            · have j8 : 8 ≤ j := (nI_leI (by decide) (by omega)).mp c8
              have e : j = 8 ∨ j = 9 ∨ j = 10 ∨ j = 11 ∨ j = 12 := by omega
              have K := H.send1 (f := v + 4) (t := 3) (k := nI j) (a := a) (b := b) (w := nI 1) (by omega) (by decide) (Or.inr (Or.inr (Or.inr (Or.inr (Or.inr ⟨by omega, Or.inr ⟨rfl, by
                rcases e with rfl | rfl | rfl | rfl | rfl
                · exact Or.inl rfl
                · exact Or.inr (Or.inl rfl)
                · exact Or.inr (Or.inr (Or.inl rfl))
                · exact Or.inr (Or.inr (Or.inr (Or.inl rfl)))
                · exact Or.inr (Or.inr (Or.inr (Or.inr rfl)))⟩⟩))))) nk
              rw [if_pos c8]
              by_cases c9 : (Fsend (v + 4) 3 (nI 1) (Fdrafts (nI j) a b n)).1 = 0
              · rw [if_pos c9]; exact set8 _ _ K
              · rw [if_neg c9]; exact K
            · have j8 : j < 8 := by
                apply Classical.byContradiction
                intro z
                exact c8 (nI_le (by omega) (by omega))
              have e : j = 1 ∨ j = 2 ∨ j = 3 ∨ j = 4 ∨ j = 5 ∨ j = 6 ∨ j = 7 := by omega
              have K := H.send1 (f := v + 4) (t := 2) (k := nI j) (a := a) (b := b) (w := nI 1) (by omega) (by decide) (Or.inr (Or.inr (Or.inr (Or.inr (Or.inr ⟨by omega, Or.inl ⟨rfl, by
                rcases e with rfl | rfl | rfl | rfl | rfl | rfl | rfl
                · exact Or.inl rfl
                · exact Or.inr (Or.inl rfl)
                · exact Or.inr (Or.inr (Or.inl rfl))
                · exact Or.inr (Or.inr (Or.inr (Or.inl rfl)))
                · exact Or.inr (Or.inr (Or.inr (Or.inr (Or.inl rfl))))
                · exact Or.inr (Or.inr (Or.inr (Or.inr (Or.inr (Or.inl rfl)))))
                · exact Or.inr (Or.inr (Or.inr (Or.inr (Or.inr (Or.inr rfl)))))⟩⟩))))) nk
              rw [if_neg c8]
              by_cases c9 : (Fsend (v + 4) 2 (nI 1) (Fdrafts (nI j) a b n)).1 = 0
              · rw [if_pos c9]; exact set8 _ _ K
              · rw [if_neg c9]; exact K
          · rw [if_neg c5]; exact H
      · rw [if_neg c3]; exact H
    · rw [if_neg c2]; exact H
/-- the readers leave the invariant: they change the thrown field alone -/
theorem Inv.blk {S : Nat} {m : mD} (h : Inv S m) : iBlk m := fun i hi ht b hb hlt => by
  obtain ⟨S', b1, b2, b3⟩ := h.2.2.2.size hi ht
  rw [b2] at hlt
  have l := (nI_ltI (by omega) (by omega)).mp hlt
  obtain ⟨B, hB, e⟩ := b3 b hb l
  rw [e]; exact nI_pos (by omega)
