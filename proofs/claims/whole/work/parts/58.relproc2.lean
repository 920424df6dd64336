/-! PROCESSES, II: WAIT -/
theorem RMH.lv {x x' : xD} {m m' : mD} (h : RM x m) (hH : RH x m) (hr : x'.2 = x.2) (h1 : ∀ a j, ¬ a = 0 → ¬ a = 3 → a < 343 → x'.1 a j = x.1 a j) (h2 : ∀ a j, a = 1 ∨ a = 2 ∨ a = 4 ∨ a = 5 → m' a j = m a j) (h0 : ∀ j, j = 6 ∨ j = 7 ∨ j = 25 ∨ j = 34 ∨ j = 40 → m' 0 j = m 0 j) (hl : ∀ p, p < 12 → x'.1 3 p = Flives p m') : RM x' m' ∧ RH x' m' := by
  obtain ⟨a1, a2, a3, a4, a5, a6⟩ := h
  refine ⟨⟨by rw [hr]; exact a1, fun p hp => (a2 p hp).congr hp a1 (fun k _ => by rw [hr]) (h1 (7 + 28 * p) 1 (by omega) (by omega) (by omega)) (h2 2 p (by omega)) (h0 40 (by omega)) (fun a j _ _ => h1 a j (by omega) (by omega) (by omega)) (fun i _ _ => h2 1 i (by omega)), hl, ?_, ?_, ?_⟩, hH.fr (fun p hp j => ⟨h1 (33 + 28 * p) j (by omega) (by omega) (by omega), h1 (33 + 28 * p + 1) j (by omega) (by omega) (by omega)⟩) (fun p _ => h2 5 p (by omega)) (fun i _ => h2 4 i (by omega)) (h0 40 (by omega)) (h0 34 (by omega))⟩
  · rw [h1 1 4 (by omega) (by omega) (by omega), h0 25 (by omega)]; exact a4
  · rw [h1 1 5 (by omega) (by omega) (by omega), h0 6 (by omega)]; exact a5
  · rw [h1 1 6 (by omega) (by omega) (by omega), h0 7 (by omega)]; exact a6
theorem Flives_u {p : Nat} {m : mD} (hp : p < 12) (h4 : 4 ≤ p) : Flives p m = (if m 7 p = nI 1 then nI 1 else nI 0) := by
  have hu : ¬ FisUser (nI p) = 0 := fun z => by have := (isUser_z p hp).mp z; omega
  rw [Flives, if_neg (by omega), if_neg hu]
theorem Flives_s {p : Nat} {m m' : mD} (hp : p < 12) (h4 : p < 4) (h : m' 0 23 = m 0 23) : Flives p m' = Flives p m := by
  have hu : FisUser (nI p) = 0 := (isUser_z p hp).mpr h4
  rw [Flives, Flives, if_pos hu, if_pos hu, h]
/-- a user's number is free: class and reference -/
theorem free_rel {x : xD} {m : mD} {k : Nat} (h : R3 x m) (hk : k < 12) (h4 : 4 ≤ k) (hs : ¬ m 7 k = nI 1) : R3 (ab_up (ab_up x.1 360 k (nI 0)) 358 k (-1), x.2) (ab_up (ab_up m 7 k (nI 0)) 11 k (-1)) := by
  obtain ⟨r1, r2, b1, b2, b3, b4, b5, b6, b7, b8⟩ := h
  have mo : ∀ q j, ¬ (q = 7 ∧ j = k) → ¬ (q = 11 ∧ j = k) → ab_up (ab_up m 7 k (nI 0)) 11 k (-1) q j = m q j := fun q j e1 e2 => by rw [ab_up_na e2, ab_up_na e1]
  have xo : ∀ q j, ¬ q = 360 → ¬ q = 358 → ab_up (ab_up x.1 360 k (nI 0)) 358 k (-1) q j = x.1 q j := fun q j e1 e2 => by rw [ab_up_ne e2, ab_up_ne e1]
  obtain ⟨c1, c2⟩ := RMH.lv (x' := (ab_up (ab_up x.1 360 k (nI 0)) 358 k (-1), x.2)) (m' := ab_up (ab_up m 7 k (nI 0)) 11 k (-1)) r1 r2 rfl (fun q j _ _ hq => xo q j (by omega) (by omega)) (fun q j hq => mo q j (by omega) (by omega)) (fun j hj => mo 0 j (by omega) (by omega)) (fun p hp => by
    show x.1 3 p = _
    rw [r1.2.2.1 p hp]
    by_cases p4 : p < 4
    · exact (Flives_s hp p4 (mo 0 23 (by omega) (by omega))).symm
    · rw [Flives_u hp (by omega), Flives_u hp (by omega)]
      by_cases e : p = k
      · subst e
        have e7 : ab_up (ab_up m 7 p (nI 0)) 11 p (-1) 7 p = nI 0 := by rw [ab_up_ne (by decide), ab_up_eq]
        rw [e7, if_neg hs, if_neg (by decide)]
      · rw [mo 7 p (by omega) (by omega)])
  refine ⟨c1, c2, b1, b2, b3, b4, b5, b6, ?_, b8⟩
  have b7' : (∀ u, u < 12 → 4 ≤ u → x.1 358 u = m 11 u ∧ x.1 359 u = m 12 u ∧ x.1 360 u = (if m 7 u = 2 then 1 else 0) ∧ x.1 361 u = m 13 u) ∧ x.1 357 4 = m 0 43 ∧ (m 0 43 = 1 → x.1 357 5 = (if m 0 44 = 8 then 1 else 0) ∧ x.1 357 6 = m 0 46 ∧ x.1 357 7 = (if m 0 44 = 9 then -1 else m 0 45)) := b7
  show (∀ u, u < 12 → 4 ≤ u → ab_up (ab_up x.1 360 k (nI 0)) 358 k (-1) 358 u = ab_up (ab_up m 7 k (nI 0)) 11 k (-1) 11 u ∧ x.1 359 u = m 12 u ∧ ab_up x.1 360 k (nI 0) 360 u = (if ab_up m 7 k (nI 0) 7 u = 2 then 1 else 0) ∧ x.1 361 u = m 13 u) ∧ x.1 357 4 = m 0 43 ∧ (m 0 43 = 1 → x.1 357 5 = (if m 0 44 = 8 then 1 else 0) ∧ x.1 357 6 = m 0 46 ∧ x.1 357 7 = (if m 0 44 = 9 then -1 else m 0 45))
  refine ⟨fun u hu hu4 => ?_, b7'.2⟩
  obtain ⟨q1, q2, q3, q4⟩ := b7'.1 u hu hu4
  by_cases e : u = k
  · subst e
    rw [ab_up_eq, ab_up_eq, ab_up_eq, ab_up_eq]
    exact ⟨rfl, q2, by decide, q4⟩
  · have l1 : ab_up (ab_up x.1 360 k (nI 0)) 358 k (-1) 358 u = x.1 358 u := by rw [ab_up_nj e, ab_up_ne (by decide)]
    have l2 : ab_up (ab_up m 7 k (nI 0)) 11 k (-1) 11 u = m 11 u := by rw [ab_up_nj e, ab_up_ne (by decide)]
    have l3 : ab_up x.1 360 k (nI 0) 360 u = x.1 360 u := ab_up_nj e
    have l4 : ab_up m 7 k (nI 0) 7 u = m 7 u := ab_up_nj e
    rw [l1, l2, l3, l4]
    exact ⟨q1, q2, q3, q4⟩
theorem userX {k : Nat} (hk : k < 12) (h4 : 4 ≤ k) : ¬ FX10_isUser (nI k) = 0 := fun z => by have := (isUserX_z k hk).mp z; omega
theorem FX8_collect_eq {k : Nat} {x : xD} (hk : k < 12) (h4 : 4 ≤ k) : FX8_collect (nI k) x = (nI (256 * k) + x.1 359 k, (ab_up (ab_up x.1 360 k (nI 0)) 358 k (-1), x.2)) ∧ DX8_collect (nI k) x := by
  have hc : (nI k).toNatClampNeg = k := nI_clamp (by omega)
  have hu := userX hk h4
  have e : ab_up (ab_up x.1 360 k (nI 0)) 358 k (-1) 359 k = x.1 359 k := by rw [ab_up_ne (by decide), ab_up_ne (by decide)]
  rw [FX8_collect, DX8_collect, if_neg hu, hc]
  dsimp only
  rw [pk_mul, e]
  exact ⟨rfl, fun z => absurd z hu, fun _ => ⟨nI_pos (by omega), hk, nI_pos (by omega), hk, nI_pos (by omega), hk, trivial⟩⟩
/-- the first child that ended, and whether there is a child, among the last i numbers -/
def fE (m : mD) (u : Nat) : Nat → Int32
  | 0 => -1
  | i + 1 => if m 11 (11 - i) = nI u ∧ m 7 (11 - i) = nI 2 then nI (11 - i) else fE m u i
def hE (m : mD) (u : Nat) : Nat → Int32
  | 0 => nI 0
  | i + 1 => if m 11 (11 - i) = nI u ∧ ¬ m 7 (11 - i) = 0 then nI 1 else hE m u i
def FwE (u : Nat) (a2 a3 : Int32) (m : mD) : mD := if a2 < 0 then (if a3 = 0 then Ftells 3 u (-10) m else ab_up m 13 u (nI 1)) else Ftells 3 u (Ffreed (a2.toNatClampNeg) m).1 (Ffreed (a2.toNatClampNeg) m).2
def DwE (u : Nat) (a2 a3 : Int32) (m : mD) : Prop := (a2 < 0 → a3 = 0 → Dtells 3 u (-10) m) ∧ (¬ a2 < 0 → Dfreed (a2.toNatClampNeg) m ∧ Dtells 3 u (Ffreed (a2.toNatClampNeg) m).1 (Ffreed (a2.toNatClampNeg) m).2)
theorem hE_v (m : mD) (u : Nat) : ∀ i, hE m u i = nI 0 ∨ hE m u i = nI 1 := by
  intro i
  induction i with
  | zero => exact Or.inl rfl
  | succ i ih =>
    rw [hE]
    by_cases c : m 11 (11 - i) = nI u ∧ ¬ m 7 (11 - i) = 0
    · rw [if_pos c]; exact Or.inr rfl
    · rw [if_neg c]; exact ih
theorem FwaitsFor_8_l {m : mD} {u : Nat} (hu : u < 12) (hD : DwE u (fE m u 8) (hE m u 8) m) : ∀ (n i : Nat), i ≤ 8 → 8 - i < n → FwaitsFor_8 n u (fE m u i) (hE m u i) (nI (11 - i)) m = FwE u (fE m u 8) (hE m u 8) m ∧ DwaitsFor_8 n u (fE m u i) (hE m u i) (nI (11 - i)) m := by
  intro n
  induction n with
  | zero => intro i _ h; omega
  | succ n ih =>
    intro i hi hn
    by_cases e : i = 8
    · subst e
      have c4 : nI (11 - 8) < nI 4 := by decide
      rw [FwaitsFor_8, DwaitsFor_8, if_pos c4, FwE]
      rw [DwE] at hD
      generalize fE m u 8 = a2 at *
      generalize hE m u 8 = a3 at *
      exact ⟨rfl, fun _ => ⟨fun z2 => ⟨fun z3 => ⟨hD.1 z2 z3, trivial⟩, fun _ => ⟨hu, trivial⟩⟩, fun z2 => ⟨z2, (hD.2 z2).1, (hD.2 z2).2, trivial⟩⟩, fun z => absurd c4 z⟩
    · obtain ⟨i1, i2⟩ := ih (i + 1) (by omega) (by omega)
      have c4 : ¬ nI (11 - i) < nI 4 := nI_nlt (by omega) (by omega)
      have c0 : ¬ nI (11 - i) < 0 := nI_pos (by omega)
      have hc : (nI (11 - i)).toNatClampNeg = 11 - i := nI_clamp (by omega)
      have hm : nI (11 - i) + -1 = nI (11 - (i + 1)) := by
        have := pk_m1 (11 - (i + 1))
        rw [show 11 - (i + 1) + 1 = 11 - i by omega] at this
        exact this
      have hv := hE_v m u i
      rw [FwaitsFor_8, DwaitsFor_8, if_neg c4, hc, hm]
      rw [fE, hE] at i1 i2
      by_cases p : m 11 (11 - i) = nI u
      · by_cases s0 : m 7 (11 - i) = 0
        · have s2 : ¬ m 7 (11 - i) = nI 2 := by rw [s0]; decide
          rw [if_neg (fun z => s2 z.2), if_neg (fun z => z.2 s0)] at i1 i2
          rw [if_pos p, if_pos s0]
          rcases hv with v | v
          · have v0 : hE m u i = 0 := v.trans nI00
            rw [if_pos v0]
            rw [v] at i1 i2
            exact ⟨i1, fun z => absurd z c4, fun _ => ⟨c0, by omega, fun _ => ⟨c0, by omega, fun _ => ⟨fun _ => i2, fun z => absurd v0 z⟩, fun z => absurd s0 z⟩, fun z => absurd p z⟩⟩
          · have v0 : ¬ hE m u i = 0 := by rw [v]; decide
            rw [if_neg v0]
            rw [v] at i1 i2
            exact ⟨i1, fun z => absurd z c4, fun _ => ⟨c0, by omega, fun _ => ⟨c0, by omega, fun _ => ⟨fun z => absurd z v0, fun _ => i2⟩, fun z => absurd s0 z⟩, fun z => absurd p z⟩⟩
        · rw [if_pos (show m 11 (11 - i) = nI u ∧ ¬ m 7 (11 - i) = 0 from ⟨p, s0⟩)] at i1 i2
          rw [if_pos p, if_neg s0]
          by_cases s2 : m 7 (11 - i) = nI 2
          · rw [if_pos ⟨p, s2⟩] at i1 i2
            rw [if_pos s2]
            have hD2 := fun (P : Prop) (z : ¬ m 7 (11 - i) = nI 2) => (absurd s2 z : P)
            refine ⟨?_, fun z => absurd z c4, fun _ => ⟨c0, by omega, fun _ => ⟨c0, by omega, fun z => absurd z s0, fun _ => ⟨fun _ => ⟨c0, by omega, fun _ => i2, hD2 _⟩, fun _ => ⟨c0, by omega, fun _ => i2, hD2 _⟩⟩⟩, fun z => absurd p z⟩⟩
            rw [ite_self]
            exact i1
          · rw [if_neg (fun z => s2 z.2)] at i1 i2
            rw [if_neg s2]
            refine ⟨?_, fun z => absurd z c4, fun _ => ⟨c0, by omega, fun _ => ⟨c0, by omega, fun z => absurd z s0, fun _ => ⟨fun _ => ⟨c0, by omega, fun z => absurd z s2, fun _ => i2⟩, fun _ => ⟨c0, by omega, fun z => absurd z s2, fun _ => i2⟩⟩⟩, fun z => absurd p z⟩⟩
            rw [ite_self]
            exact i1
      · rw [if_neg (fun z => p z.1), if_neg (fun z => p z.1)] at i1 i2
        rw [if_neg p]
        rcases hv with v | v
        · have v0 : hE m u i = 0 := v.trans nI00
          rw [if_pos v0]
          rw [v] at i1 i2
          exact ⟨i1, fun z => absurd z c4, fun _ => ⟨c0, by omega, fun z => absurd z p, fun _ => ⟨fun _ => i2, fun z => absurd v0 z⟩⟩⟩
        · have v0 : ¬ hE m u i = 0 := by rw [v]; decide
          rw [if_neg v0]
          rw [v] at i1 i2
          exact ⟨i1, fun z => absurd z c4, fun _ => ⟨c0, by omega, fun z => absurd z p, fun _ => ⟨fun z => absurd z v0, fun _ => i2⟩⟩⟩
/-- waits of a user set -/
theorem waits_rel {x : xD} {m : mD} {u : Nat} {v : Int32} (h : R3 x m) : R3 (ab_up x.1 361 u v, x.2) (ab_up m 13 u v) := by
  obtain ⟨r1, r2, b1, b2, b3, b4, b5, b6, b7, b8⟩ := h
  obtain ⟨c1, c2⟩ := RMH.rest (x' := (ab_up x.1 361 u v, x.2)) (m' := ab_up m 13 u v) r1 r2 rfl (fun q j _ hq => ab_up_ne (by omega)) (fun q j hq => ab_up_ne (by omega)) (fun j hj => ab_up_ne (by omega))
  refine ⟨c1, c2, b1, b2, b3, b4, b5, b6, ?_, b8⟩
  have b7' : (∀ u, u < 12 → 4 ≤ u → x.1 358 u = m 11 u ∧ x.1 359 u = m 12 u ∧ x.1 360 u = (if m 7 u = 2 then 1 else 0) ∧ x.1 361 u = m 13 u) ∧ x.1 357 4 = m 0 43 ∧ (m 0 43 = 1 → x.1 357 5 = (if m 0 44 = 8 then 1 else 0) ∧ x.1 357 6 = m 0 46 ∧ x.1 357 7 = (if m 0 44 = 9 then -1 else m 0 45)) := b7
  show (∀ w, w < 12 → 4 ≤ w → x.1 358 w = m 11 w ∧ x.1 359 w = m 12 w ∧ x.1 360 w = (if m 7 w = 2 then 1 else 0) ∧ ab_up x.1 361 u v 361 w = ab_up m 13 u v 13 w) ∧ x.1 357 4 = m 0 43 ∧ (m 0 43 = 1 → x.1 357 5 = (if m 0 44 = 8 then 1 else 0) ∧ x.1 357 6 = m 0 46 ∧ x.1 357 7 = (if m 0 44 = 9 then -1 else m 0 45))
  refine ⟨fun w hw hw4 => ?_, b7'.2⟩
  obtain ⟨q1, q2, q3, q4⟩ := b7'.1 w hw hw4
  refine ⟨q1, q2, q3, ?_⟩
  by_cases e : w = u
  · subst e; rw [ab_up_eq, ab_up_eq]
  · rw [ab_up_nj e, ab_up_nj e]; exact q4
theorem Ffreed_eq {k : Nat} {m : mD} : Ffreed k m = (nI (256 * k) + m 12 k, ab_up (ab_up m 7 k (nI 0)) 11 k (-1)) := rfl
def iPar (m : mD) : Prop := ∀ c, c < 12 → 4 ≤ c → (m 11 c = -1 ∨ ∃ v, v < 12 ∧ 4 ≤ v ∧ m 11 c = nI v ∧ ¬ m 7 c = 0)
theorem freed_tells {x : xD} {m : mD} {u k : Nat} (h : R3 x m) (hu : u < 12) (hk : k < 12) (h4 : 4 ≤ k) (hs : ¬ m 7 k = nI 1) (hd : m 0 23 = 0 ∨ m 0 23 = 1) (h5 : m 5 3 = -1) (htl : ¬ m 0 34 = 0) : DX8_collect (nI k) x ∧ DX1_send (nI 3) (nI u) (nI 50) (FX8_collect (nI k) x).1 (nI 0) (FX8_collect (nI k) x).2 ∧ Dfreed k m ∧ Dtells 3 u (Ffreed k m).1 (Ffreed k m).2 ∧ R3 (FX1_send (nI 3) (nI u) (nI 50) (FX8_collect (nI k) x).1 (nI 0) (FX8_collect (nI k) x).2) (Ftells 3 u (Ffreed k m).1 (Ffreed k m).2) ∧ FrX (FX8_collect (nI k) x).2 (FX1_send (nI 3) (nI u) (nI 50) (FX8_collect (nI k) x).1 (nI 0) (FX8_collect (nI k) x).2) ∧ FrM (Ffreed k m).2 (Ftells 3 u (Ffreed k m).1 (Ffreed k m).2) := by
  obtain ⟨c1, c2⟩ := FX8_collect_eq (x := x) hk h4
  rw [c1, Ffreed_eq, code_of h hk h4]
  have F := free_rel h hk h4 hs
  obtain ⟨t1, t2, t3, t4, t5⟩ := tells_rel (f := 3) (u := u) (v := nI (256 * k) + m 12 k) F (by decide) hu (by omega) hd h5 htl
  exact ⟨c2, t1, ⟨hk, hk, hk, trivial⟩, t2, t3, t4, t5⟩
theorem await_l {x : xD} {m : mD} {u : Nat} (h : R3 x m) (hu : u < 12) (hu4 : 4 ≤ u) (hd : m 0 23 = 0 ∨ m 0 23 = 1) (h5 : m 5 3 = -1) (htl : ¬ m 0 34 = 0) (hp : iPar m) : ∀ (n k : Nat) (a3 : Int32), (a3 = nI 0 ∨ a3 = nI 1) → 4 ≤ k → k ≤ 12 → 12 - k < n → DX8_await_5 n (nI u) a3 k x ∧ DwE u (fE m u (12 - k)) (if a3 = 0 then hE m u (12 - k) else nI 1) m ∧ R3 (FX8_await_5 n (nI u) a3 k x) (FwE u (fE m u (12 - k)) (if a3 = 0 then hE m u (12 - k) else nI 1) m) := by
  have hcu : (nI u).toNatClampNeg = u := nI_clamp (by omega)
  have hm1 : (-1 : Int32) < 0 := by decide
  intro n
  induction n with
  | zero => intro k a3 _ _ _ h; omega
  | succ n ih =>
    intro k a3 ha h4k hk hn
    rw [FX8_await_5, DX8_await_5]
    by_cases e : 12 ≤ k
    · have e12 : k = 12 := by omega
      subst e12
      have f0 : fE m u (12 - 12) = -1 := rfl
      have g0 : hE m u (12 - 12) = nI 0 := rfl
      rw [if_pos e, f0, g0, FwE, DwE, if_pos hm1]
      rcases ha with v | v
      · have v0 : a3 = 0 := v.trans nI00
        obtain ⟨t1, t2, t3, -⟩ := tells_rel (f := 3) (u := u) (v := -10) h (by decide) hu (by omega) hd h5 htl
        rw [if_pos v0, if_pos v0, if_pos nI00]
        exact ⟨⟨by decide, fun _ => ⟨fun _ => ⟨t1, trivial⟩, fun z => absurd v0 z⟩, fun z => absurd e z⟩, ⟨fun _ _ => t2, fun z => absurd hm1 z⟩, t3⟩
      · have v0 : ¬ a3 = 0 := by rw [v]; decide
        rw [if_neg v0, if_neg v0, if_neg nI10, hcu]
        exact ⟨⟨by decide, fun _ => ⟨fun z => absurd z v0, fun _ => ⟨nI_pos (by omega), hu, trivial⟩⟩, fun z => absurd e z⟩, ⟨fun _ z => absurd z nI10, fun z => absurd hm1 z⟩, waits_rel h⟩
    · have ei : 12 - k = (11 - k) + 1 := by omega
      have ek : 11 - (11 - k) = k := by omega
      have ej : 12 - (k + 1) = 11 - k := by omega
      have hpa := parent_of h (show k < 12 by omega) h4k
      have hen := ended_of h (show k < 12 by omega) h4k
      rw [if_neg e, hpa, hen, ei, fE, hE, ek]
      by_cases p : m 11 k = nI u
      · have s0 : ¬ m 7 k = 0 := by
          rcases hp k (by omega) h4k with z | ⟨v, -, -, -, z⟩
          · rw [z] at p
            exact absurd p.symm (nI_ne_m1 u (by omega))
          · exact z
        by_cases s2 : m 7 k = nI 2
        · have s2' : m 7 k = 2 := s2
          have n0 : ¬ (if m 7 k = 2 then (1 : Int32) else 0) = 0 := by rw [if_pos s2']; decide
          have s1 : ¬ m 7 k = nI 1 := by rw [s2]; decide
          have hck : (nI k).toNatClampNeg = k := nI_clamp (by omega)
          have k0 : ¬ nI k < 0 := nI_pos (by omega)
          obtain ⟨t1, t2, t3, t4, t5, -⟩ := freed_tells h hu (show k < 12 by omega) h4k s1 hd h5 htl
          rw [if_pos p, if_neg n0, if_pos (show m 11 k = nI u ∧ m 7 k = nI 2 from ⟨p, s2⟩), FwE, DwE, if_neg k0, hck]
          exact ⟨⟨by omega, fun z => absurd z e, fun _ => ⟨by omega, fun _ => ⟨by omega, fun z => absurd z n0, fun _ => ⟨t1, t2, trivial⟩⟩, fun z => absurd p z⟩⟩, ⟨fun z => absurd z k0, fun _ => ⟨t3, t4⟩⟩, t5⟩
        · have s2' : ¬ m 7 k = 2 := s2
          have n0 : (if m 7 k = 2 then (1 : Int32) else 0) = 0 := by rw [if_neg s2']
          obtain ⟨i1, i2, i3⟩ := ih (k + 1) (nI 1) (Or.inr rfl) (by omega) (by omega) (by omega)
          rw [if_neg nI10, ej] at i2 i3
          have ea : (if a3 = 0 then nI 1 else nI 1) = nI 1 := ite_self _
          rw [if_pos p, if_pos n0, if_neg (show ¬ (m 11 k = nI u ∧ m 7 k = nI 2) from fun z => s2 z.2), if_pos (show m 11 k = nI u ∧ ¬ m 7 k = 0 from ⟨p, s0⟩), ea]
          exact ⟨⟨by omega, fun z => absurd z e, fun _ => ⟨by omega, fun _ => ⟨by omega, fun _ => i1, fun z => absurd n0 z⟩, fun z => absurd p z⟩⟩, i2, i3⟩
      · obtain ⟨i1, i2, i3⟩ := ih (k + 1) a3 ha (by omega) (by omega) (by omega)
        rw [ej] at i2 i3
        rw [if_neg p, if_neg (show ¬ (m 11 k = nI u ∧ m 7 k = nI 2) from fun z => p z.1), if_neg (show ¬ (m 11 k = nI u ∧ ¬ m 7 k = 0) from fun z => p z.1)]
        exact ⟨⟨by omega, fun z => absurd z e, fun _ => ⟨by omega, fun z => absurd z p, fun _ => i1⟩⟩, i2, i3⟩
theorem await_rel {x : xD} {m : mD} {u : Nat} (h : R3 x m) (hu : u < 12) (hu4 : 4 ≤ u) (hd : m 0 23 = 0 ∨ m 0 23 = 1) (h5 : m 5 3 = -1) (htl : ¬ m 0 34 = 0) (hp : iPar m) : DX8_await (nI u) x ∧ DwaitsFor u m ∧ R3 (FX8_await (nI u) x) (FwaitsFor u m) := by
  obtain ⟨a1, a2, a3⟩ := await_l h hu hu4 hd h5 htl hp 9 4 (nI 0) (Or.inl rfl) (by decide) (by decide) (by decide)
  rw [if_pos nI00] at a2 a3
  obtain ⟨b1, b2⟩ := FwaitsFor_8_l hu a2 9 0 (by decide) (by decide)
  have b1 : FwaitsFor u m = FwE u (fE m u (12 - 4)) (hE m u (12 - 4)) m := b1
  rw [b1]
  exact ⟨a1, b2, a3⟩
