/-! PROCESSES, VI: done, class against reference -/
def iHel (m : mD) : Prop := m 0 43 = 1 → ∃ s v, s < 12 ∧ 4 ≤ s ∧ v < 12 ∧ 4 ≤ v ∧ m 0 46 = nI s ∧ m 0 45 = nI v ∧ ((m 0 44 = nI 8 ∧ m 7 s = 0) ∨ (m 0 44 = nI 9 ∧ m 7 s = nI 2) ∨ (m 0 44 = nI 11 ∧ m 7 s = nI 2 ∧ m 11 s = nI v))
theorem unhold_rel {x : xD} {m : mD} (h : R3 x m) : R3 (ab_up x.1 357 4 (nI 0), x.2) (ab_up m 0 43 (nI 0)) := by
  obtain ⟨r1, r2, b1, b2, b3, b4, b5, b6, b7, b8⟩ := h
  obtain ⟨c1, c2⟩ := RMH.rest (x' := (ab_up x.1 357 4 (nI 0), x.2)) (m' := ab_up m 0 43 (nI 0)) r1 r2 rfl (fun q j _ hq => ab_up_ne (by omega)) (fun q j hq => ab_up_ne (by omega)) (fun j hj => ab_up_nj (by omega))
  refine ⟨c1, c2, b1, b2, b3, b4, b5, b6, ?_, b8⟩
  have b7' : (∀ u, u < 12 → 4 ≤ u → x.1 358 u = m 11 u ∧ x.1 359 u = m 12 u ∧ x.1 360 u = (if m 7 u = 2 then 1 else 0) ∧ x.1 361 u = m 13 u) ∧ x.1 357 4 = m 0 43 ∧ (m 0 43 = 1 → x.1 357 5 = (if m 0 44 = 8 then 1 else 0) ∧ x.1 357 6 = m 0 46 ∧ x.1 357 7 = (if m 0 44 = 9 then -1 else m 0 45)) := b7
  show (∀ u, u < 12 → 4 ≤ u → x.1 358 u = m 11 u ∧ x.1 359 u = m 12 u ∧ x.1 360 u = (if m 7 u = 2 then 1 else 0) ∧ x.1 361 u = m 13 u) ∧ nI 0 = nI 0 ∧ (nI 0 = 1 → x.1 357 5 = (if m 0 44 = 8 then 1 else 0) ∧ x.1 357 6 = m 0 46 ∧ x.1 357 7 = (if m 0 44 = 9 then -1 else m 0 45))
  exact ⟨b7'.1, rfl, fun z => absurd z (by decide)⟩
/-- a fork done: before the answer -/
theorem born_rel {x : xD} {m : mD} {s : Nat} {v : Int32} (h : R3 x m) (hs : s < 12) (hs4 : 4 ≤ s) (h7 : m 7 s = 0) (h43 : ¬ m 0 43 = 1) : R3 (ab_up (ab_up (ab_up x.1 3 s (nI 1)) 358 s v) 359 s (nI 0), x.2) (ab_up (ab_up (ab_up m 7 s (nI 1)) 11 s v) 12 s (nI 0)) := by
  have hen := ended_of h hs hs4
  rw [h7, if_neg (by decide)] at hen
  obtain ⟨r1, r2, b1, b2, b3, b4, b5, b6, b7, b8⟩ := h
  have mo : ∀ q j, ¬ q = 7 → ¬ q = 11 → ¬ q = 12 → ab_up (ab_up (ab_up m 7 s (nI 1)) 11 s v) 12 s (nI 0) q j = m q j := fun q j e1 e2 e3 => by rw [ab_up_ne e3, ab_up_ne e2, ab_up_ne e1]
  have m7 : ∀ j, ab_up (ab_up (ab_up m 7 s (nI 1)) 11 s v) 12 s (nI 0) 7 j = ab_up m 7 s (nI 1) 7 j := fun j => by rw [ab_up_ne (by decide), ab_up_ne (by decide)]
  have xo : ∀ q j, ¬ q = 3 → ¬ q = 358 → ¬ q = 359 → ab_up (ab_up (ab_up x.1 3 s (nI 1)) 358 s v) 359 s (nI 0) q j = x.1 q j := fun q j e1 e2 e3 => by rw [ab_up_ne e3, ab_up_ne e2, ab_up_ne e1]
  obtain ⟨c1, c2⟩ := RMH.lv (x' := (ab_up (ab_up (ab_up x.1 3 s (nI 1)) 358 s v) 359 s (nI 0), x.2)) (m' := ab_up (ab_up (ab_up m 7 s (nI 1)) 11 s v) 12 s (nI 0)) r1 r2 rfl (fun q j _ h3 hq => xo q j h3 (by omega) (by omega)) (fun q j hq => mo q j (by omega) (by omega) (by omega)) (fun j hj => mo 0 j (by omega) (by omega) (by omega)) (fun p hp => by
    have e : (ab_up (ab_up (ab_up x.1 3 s (nI 1)) 358 s v) 359 s (nI 0), x.2).1 3 p = ab_up x.1 3 s (nI 1) 3 p := by
      show ab_up (ab_up (ab_up x.1 3 s (nI 1)) 358 s v) 359 s (nI 0) 3 p = _
      rw [ab_up_ne (by decide), ab_up_ne (by decide)]
    rw [e]
    by_cases ep : p = s
    · subst ep
      rw [ab_up_eq, Flives_u hp hs4, m7, ab_up_eq, if_pos rfl]
    · rw [ab_up_nj ep, r1.2.2.1 p hp, Flives_congr (m := m) (mo 0 23 (by omega) (by omega) (by omega)) (by rw [m7, ab_up_nj ep])])
  refine ⟨c1, c2, b1, b2, b3, b4, b5, b6, ?_, b8⟩
  have b7' : (∀ u, u < 12 → 4 ≤ u → x.1 358 u = m 11 u ∧ x.1 359 u = m 12 u ∧ x.1 360 u = (if m 7 u = 2 then 1 else 0) ∧ x.1 361 u = m 13 u) ∧ x.1 357 4 = m 0 43 ∧ (m 0 43 = 1 → x.1 357 5 = (if m 0 44 = 8 then 1 else 0) ∧ x.1 357 6 = m 0 46 ∧ x.1 357 7 = (if m 0 44 = 9 then -1 else m 0 45)) := b7
  show (∀ u, u < 12 → 4 ≤ u → ab_up (ab_up x.1 3 s (nI 1)) 358 s v 358 u = ab_up (ab_up m 7 s (nI 1)) 11 s v 11 u ∧ ab_up (ab_up (ab_up x.1 3 s (nI 1)) 358 s v) 359 s (nI 0) 359 u = ab_up (ab_up (ab_up m 7 s (nI 1)) 11 s v) 12 s (nI 0) 12 u ∧ x.1 360 u = (if ab_up m 7 s (nI 1) 7 u = 2 then 1 else 0) ∧ x.1 361 u = m 13 u) ∧ x.1 357 4 = m 0 43 ∧ (m 0 43 = 1 → x.1 357 5 = (if m 0 44 = 8 then 1 else 0) ∧ x.1 357 6 = m 0 46 ∧ x.1 357 7 = (if m 0 44 = 9 then -1 else m 0 45))
  refine ⟨fun u hu hu4 => ?_, b7'.2⟩
  obtain ⟨q1, q2, q3, q4⟩ := b7'.1 u hu hu4
  by_cases e : u = s
  · subst e
    rw [ab_up_eq, ab_up_eq, ab_up_eq, ab_up_eq, ab_up_eq]
    exact ⟨rfl, rfl, by rw [hen]; decide, q4⟩
  · have l1 : ab_up (ab_up x.1 3 s (nI 1)) 358 s v 358 u = x.1 358 u := by rw [ab_up_nj e, ab_up_ne (by decide)]
    have l2 : ab_up (ab_up m 7 s (nI 1)) 11 s v 11 u = m 11 u := by rw [ab_up_nj e, ab_up_ne (by decide)]
    have l3 : ab_up (ab_up (ab_up x.1 3 s (nI 1)) 358 s v) 359 s (nI 0) 359 u = x.1 359 u := by rw [ab_up_nj e, ab_up_ne (by decide), ab_up_ne (by decide)]
    have l4 : ab_up (ab_up (ab_up m 7 s (nI 1)) 11 s v) 12 s (nI 0) 12 u = m 12 u := by rw [ab_up_nj e, ab_up_ne (by decide), ab_up_ne (by decide)]
    have l5 : ab_up m 7 s (nI 1) 7 u = m 7 u := ab_up_nj e
    rw [l1, l2, l3, l4, l5]
    exact ⟨q1, q2, q3, q4⟩
/-- the answer to who kills -/
def FXlast (X : xD) : xD := if X.1 357 7 = -1 then X else FX1_send (nI 3) (X.1 357 7) (nI 50) (nI 0) (nI 0) X
def Flast (M : mD) : mD := if M 0 44 = nI 11 then Ftells 3 ((M 0 45).toNatClampNeg) (nI 0) M else M
theorem last_rel {X : xD} {M : mD} {v : Nat} (h : R3 X M) (hv : v < 12) (hv4 : 4 ≤ v) (hd : M 0 23 = 0 ∨ M 0 23 = 1) (htl : ¬ M 0 34 = 0) (h45 : M 0 45 = nI v) (hk : (M 0 44 = nI 9 ∧ X.1 357 7 = -1) ∨ (M 0 44 = nI 11 ∧ X.1 357 7 = nI v)) (h5 : M 0 44 = nI 11 → M 5 3 = -1 ∨ (M 5 3 = nI v ∧ M 2 v = nI 12 ∧ ¬ Flives v M = 0)) :
    (¬ X.1 357 7 = -1 → DX1_send (nI 3) (X.1 357 7) (nI 50) (nI 0) (nI 0) X) ∧ (M 0 44 = nI 11 → ¬ M 0 45 < 0 ∧ Dtells 3 ((M 0 45).toNatClampNeg) (nI 0) M) ∧ R3 (FXlast X) (Flast M) := by
  rw [FXlast, Flast]
  rcases hk with ⟨k1, k2⟩ | ⟨k1, k2⟩
  · have k3 : ¬ M 0 44 = nI 11 := by rw [k1]; decide
    rw [if_pos k2, if_neg k3]
    exact ⟨fun z => absurd k2 z, fun z => absurd z k3, h⟩
  · have k3 : ¬ X.1 357 7 = -1 := by rw [k2]; exact nI_ne_m1 v (by omega)
    rw [if_neg k3, if_pos k1, k2, h45, nI_clamp (by omega)]
    have T : DX1_send (nI 3) (nI v) (nI 50) (nI 0) (nI 0) X ∧ Dtells 3 v (nI 0) M ∧ R3 (FX1_send (nI 3) (nI v) (nI 50) (nI 0) (nI 0) X) (Ftells 3 v (nI 0) M) := by
      rcases h5 k1 with z | ⟨z1, z2, z3⟩
      · obtain ⟨t1, t2, t3, -⟩ := tells_rel (f := 3) (u := v) (v := nI 0) h (by decide) hv (by omega) hd z htl
        exact ⟨t1, t2, t3⟩
      · exact tells_again h hv hv4 hd htl z1 z2 z3
    exact ⟨fun _ => T.1, fun _ => ⟨nI_pos (by omega), T.2.1⟩, T.2.2⟩
theorem FX8_goOn_fork {x : xD} (h4 : ¬ x.1 357 4 = 0) (hu : ¬ FX10_isUser (x.1 357 6) = 0) (h5 : ¬ x.1 357 5 = 0) : FX8_goOn x = FX1_send (nI 3) (x.1 357 7) (nI 50) (x.1 357 6) (nI 0) (ab_up (ab_up (ab_up (ab_up x.1 357 4 (nI 0)) 3 ((x.1 357 6).toNatClampNeg) (nI 1)) 358 ((x.1 357 6).toNatClampNeg) (x.1 357 7)) 359 ((x.1 357 6).toNatClampNeg) (nI 0), x.2) := by
  rw [FX8_goOn, if_neg h4, if_neg hu]
  refine (if_neg ?_).trans ?_
  · exact h5
  · rfl
