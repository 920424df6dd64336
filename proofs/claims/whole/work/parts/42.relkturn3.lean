/-! THE KEEPER's TURN with what it keeps -/
theorem DX10_breakDriver_ok {x : xD} : DX10_breakDriver x := ⟨(FX1_end_eq (p := 1) (x := x) (by decide)).2, trivial⟩
def xKt (x : xD) : xD := (ab_up x.1 343 0 (x.1 343 0 + nI 1), x.2)
def FXkeep (x : xD) : xD := if (FX1_sendHeld (nI 0) (xKt x)).1 = 0 then fin (FX5_takeTurn (FX1_sendHeld (nI 0) (xKt x)).2) else (FX1_sendHeld (nI 0) (xKt x)).2
theorem keeper_turn {x : xD} {m : mD} (h : RM x m) (hH : RH x m) (hR : RR x.1 m) (htl : ¬ m 0 34 = 0) (hd : m 0 23 = 0 ∨ m 0 23 = 1) (hi : iDead m) (ha : m 0 33 = 0 ∨ m 0 33 = 1) : DX1_sendHeld (nI 0) (xKt x) ∧ ((FX1_sendHeld (nI 0) (xKt x)).1 = 0 → DX5_takeTurn (FX1_sendHeld (nI 0) (xKt x)).2) ∧ Dkeeper m ∧ RM (FXkeep x) (Fkeeper m) ∧ RH (FXkeep x) (Fkeeper m) ∧ RR (FXkeep x).1 (Fkeeper m) := by
  have k1 : x.1 343 0 = m 0 31 := hR.2.1.1
  have r1 : RM (xKt x) (ab_up m 0 31 (m 0 31 + nI 1)) := (h.xc (x' := xKt x) (fun _ _ _ _ => rfl) (fun p hp => ab_up_ne (by omega)) (fun p hp a j _ _ => ab_up_ne (by omega)) (fun p hp => rfl) rfl rfl rfl).mc (fun _ _ => rfl) (fun _ _ => rfl) (fun _ _ => rfl) (fun j hj => by rcases hj with rfl | rfl | rfl | rfl | rfl <;> rfl)
  have r2 : RH (xKt x) (ab_up m 0 31 (m 0 31 + nI 1)) := hH.fr (fun p hp j => ⟨ab_up_ne (by omega), ab_up_ne (by omega)⟩) (fun _ _ => rfl) (fun _ _ => rfl) rfl rfl
  have r3 : RR (xKt x).1 (ab_up m 0 31 (m 0 31 + nI 1)) := by
    obtain ⟨b1, ⟨_, k2, k3⟩, b3, b4, b5, b6, b7, b8⟩ := hR
    exact ⟨b1, ⟨by show x.1 343 0 + nI 1 = m 0 31 + nI 1; rw [k1], k2, k3⟩, b3, b4, b5, b6, b7, b8⟩
  have q34 : ¬ (ab_up m 0 31 (m 0 31 + nI 1)) 0 34 = 0 := htl
  have q23 : (ab_up m 0 31 (m 0 31 + nI 1)) 0 23 = 0 ∨ (ab_up m 0 31 (m 0 31 + nI 1)) 0 23 = 1 := hd
  have qi : iDead (ab_up m 0 31 (m 0 31 + nI 1)) := hi
  have qa : (ab_up m 0 31 (m 0 31 + nI 1)) 0 33 = 0 ∨ (ab_up m 0 31 (m 0 31 + nI 1)) 0 33 = 1 := ha
  have dk := Dkeeper_of (m := m)
  rw [FXkeep, Fkeeper_eq]
  revert dk
  generalize ab_up m 0 31 (m 0 31 + nI 1) = n at *
  generalize xKt x = y at *
  intro dk
  obtain ⟨d1, d2, hc⟩ := held_rel (p := 0) r1 r2 (by decide) q23 q34
  rcases hc with ⟨c1, c2, c3⟩ | ⟨x', m', c1, c2, c3, c4, c5, c6, c7⟩
  · rw [c3] at dk
    rw [c2, c3]
    dsimp only at dk ⊢
    rw [if_pos nI00, if_pos nI00]
    obtain ⟨g1, g2, g3, g4, g5⟩ := k2_rel r1 r2 r3 c1 q34 q23 qi qa
    exact ⟨d1, fun _ => g1, dk d2 (fun _ => g2), g3, g4, g5⟩
  · rw [c3] at dk
    rw [c2, c3]
    dsimp only at dk ⊢
    rw [if_neg nI10, if_neg nI10]
    exact ⟨d1, fun z => absurd z nI10, dk d2 (fun z => absurd z nI10), c4, c5, r3.send c6 c7⟩
