/-! MESSAGES THAT STAY WITH THEIR PART, and sending with them -/
def heldR (x : xD) (m : mD) (p : Nat) : Prop := x.1 (33 + 28 * p) 7 = m 5 p ∧ (m 5 p = -1 ∨ ∃ t, t < 12 ∧ m 5 p = nI t ∧ x.1 (33 + 28 * p) 1 = nI p ∧ eqM (m 0 40) x.1 (33 + 28 * p) (fun i => if i = 0 then nI p else m 4 (13 * p + i)) ∧ x.1 (33 + 28 * p) 6 = (if p = 2 ∧ t = 1 then m 0 34 else 0))
def RH (x : xD) (m : mD) : Prop := ∀ p, p < 12 → heldR x m p
/-- what sending leaves alone -/
def FrX (x y : xD) : Prop := ∀ a j, a = 0 ∨ a = 3 ∨ 343 ≤ a → y.1 a j = x.1 a j
def FrM (m n : mD) : Prop := ∀ a j, (6 ≤ a ∨ (a = 0 ∧ j ≠ 6 ∧ j ≠ 7)) → n a j = m a j
theorem heldR.congr {x x' : xD} {m m' : mD} {p : Nat} (h : heldR x m p) (h1 : ∀ j, x'.1 (33 + 28 * p) j = x.1 (33 + 28 * p) j) (h2 : ∀ j, x'.1 (33 + 28 * p + 1) j = x.1 (33 + 28 * p + 1) j) (h5 : m' 5 p = m 5 p) (h4 : ∀ i, i < 13 → m' 4 (13 * p + i) = m 4 (13 * p + i)) (h40 : m' 0 40 = m 0 40) (h34 : m' 0 34 = m 0 34) : heldR x' m' p := by
  obtain ⟨a1, a2⟩ := h
  refine ⟨by rw [h1, h5]; exact a1, ?_⟩
  rcases a2 with a2 | ⟨t, ht, b1, b2, b3, b4⟩
  · exact Or.inl (h5.trans a2)
  · refine Or.inr ⟨t, ht, h5.trans b1, by rw [h1]; exact b2, ?_, by rw [h1, h34]; exact b4⟩
    rw [h40]
    refine b3.congr (fun j _ _ => h1 j) (fun j _ => h2 j) (fun i hi => ?_)
    by_cases h0 : i = 0
    · rw [if_pos h0, if_pos h0]
    · rw [if_neg h0, if_neg h0, h4 i hi]
theorem Fsends_eq {f t : Nat} {m : mD} (hf : f < 12) (hD : Dsend f t (nI 1) m) : Fsends f t m = (if (Fsend f t (nI 1) m).1 = nI 3 then mKeep f t (Fsend f t (nI 1) m).2 else (Fsend f t (nI 1) m).2) ∧ Dsends f t m := by
  have h := Fsends_13_eq f t (Fsend f t (nI 1) m).2 hf
  rw [Fsends, h.1]
  exact ⟨rfl, hD, fun _ => h.2, fun _ => trivial⟩
theorem mKeep_o {f t : Nat} {m : mD} {a j : Nat} (h4 : a ≠ 4) (h5 : ¬ (a = 5 ∧ j = f)) : mKeep f t m a j = m a j := by
  rw [mKeep]
  by_cases e : a = 5
  · subst e; rw [ab_up_nj (fun z => h5 ⟨rfl, z⟩), fil_q h4]
  · rw [ab_up_ne e, fil_q h4]
theorem mKeep_4 {f t : Nat} {m : mD} {j : Nat} : mKeep f t m 4 j = fil m 4 (13 * f) 13 (m 3) 4 j := by
  rw [mKeep, ab_up_ne (by decide)]
theorem nI13 : ¬ nI 1 = nI 3 := by decide
theorem nI23 : ¬ nI 2 = nI 3 := by decide
theorem nI03 : ¬ nI 0 = nI 3 := by decide
theorem sends_core {y : xD} {n : mD} {f t : Nat} (h : RM y n) (hH : ∀ p, p < 12 → p ≠ f → heldR y n p) (hf : f < 12) (ht : t < 12) (hd : n 0 23 = 0 ∨ n 0 23 = 1) (h1 : y.1 (33 + 28 * f) 1 = nI f) (he : eqM (n 0 40) y.1 (33 + 28 * f) (fun i => if i = 0 then nI f else n 3 i)) (h7 : y.1 (33 + 28 * f) 7 = -1) (h5 : n 5 f = -1) (hlife : y.1 (33 + 28 * f) 6 = (if f = 2 ∧ t = 1 then n 0 34 else 0)) (htl : ¬ n 0 34 = 0) :
    DX1_post (33 + 28 * f) (nI t) y ∧ Dsends f t n ∧ RM (FX1_post (33 + 28 * f) (nI t) y).2 (Fsends f t n) ∧ RH (FX1_post (33 + 28 * f) (nI t) y).2 (Fsends f t n) ∧ FrX y (FX1_post (33 + 28 * f) (nI t) y).2 ∧ FrM n (Fsends f t n) := by
  have hqm : 33 + 28 * f = 5 ∨ ∃ p, p < 12 ∧ 33 + 28 * f = 33 + 28 * p := Or.inr ⟨f, hf, rfl⟩
  have hlf : (y.1 (33 + 28 * f) 6 = 0 ∨ y.1 (33 + 28 * f) 6 = y.1 1 4) ↔ ¬ (¬ nI 1 = 0 ∧ f = 2 ∧ t = 1 ∧ ¬ n 0 34 = n 0 25) := by
    rw [hlife, h.2.2.2.1]
    by_cases hc : f = 2 ∧ t = 1
    · rw [if_pos hc]
      exact ⟨fun z w => z.elim htl w.2.2.2, fun z => Or.inr (Classical.byContradiction fun w => z ⟨by decide, hc.1, hc.2, w⟩)⟩
    · rw [if_neg hc]
      exact ⟨fun _ w => hc ⟨w.2.1, w.2.2.1⟩, fun _ => Or.inl rfl⟩
  obtain ⟨p1, s1, cs⟩ := post_send (b := nI 1) h hqm h1 hf ht hd hlf
  obtain ⟨f1, f2⟩ := Fsends_eq (t := t) hf s1
  refine ⟨p1, f2, ?_⟩
  rw [f1]
  rcases cs with ⟨c1, c2⟩ | ⟨c1, c2⟩ | ⟨c1, c2⟩ | ⟨M, hM, hm, c1, c2⟩
  · rw [c1, c2]
    dsimp only
    rw [if_neg nI13]
    have o : ∀ a j, a ≠ 1 → (xForb y).1 a j = y.1 a j := fun a j ha => ab_up_ne ha
    have om : ∀ a j, ¬ (a = 0 ∧ j = 6) → mForb n a j = n a j := fun a j ha => by
      rw [mForb]
      by_cases e : a = 0
      · subst e; exact ab_up_nj (fun z => ha ⟨rfl, z⟩)
      · exact ab_up_ne e
    refine ⟨h.forb, fun p hp => ?_, fun a j ha => o _ _ (by omega), fun a j ha => om _ _ (by omega)⟩
    by_cases hpf : p = f
    · subst hpf
      exact ⟨by rw [o _ _ (by omega), om _ _ (by omega), h7, h5], Or.inl (by rw [om _ _ (by omega)]; exact h5)⟩
    · exact (hH p hp hpf).congr (fun j => o _ _ (by omega)) (fun j => o _ _ (by omega)) (om _ _ (by omega)) (fun i _ => om _ _ (by omega)) (om _ _ (by omega)) (om _ _ (by omega))
  · rw [c1, c2]
    dsimp only
    rw [if_neg nI23]
    refine ⟨h, fun p hp => ?_, fun a j _ => rfl, fun a j _ => rfl⟩
    by_cases hpf : p = f
    · subst hpf
      exact ⟨by rw [h7, h5], Or.inl h5⟩
    · exact hH p hp hpf
  · rw [c1, c2]
    dsimp only
    rw [if_pos rfl]
    have o : ∀ a j, ¬ (a = 33 + 28 * f ∧ j = 7) → (xHold (33 + 28 * f) t y).1 a j = y.1 a j := fun a j ha => by
      show ab_up y.1 (33 + 28 * f) 7 (nI t) a j = _
      by_cases e : a = 33 + 28 * f
      · subst e; exact ab_up_nj (fun z => ha ⟨rfl, z⟩)
      · exact ab_up_ne e
    have o7 : (xHold (33 + 28 * f) t y).1 (33 + 28 * f) 7 = nI t := ab_up_eq
    refine ⟨(h.hold hqm).mc (fun i _ => mKeep_o (by decide) (by omega)) (fun i _ => mKeep_o (by decide) (by omega)) (fun i _ => mKeep_o (by decide) (by omega)) (fun i _ => mKeep_o (by decide) (by omega)), fun p hp => ?_, fun a j ha => o _ _ (by omega), fun a j ha => mKeep_o (by omega) (by omega)⟩
    by_cases hpf : p = f
    · subst hpf
      have e5 : mKeep p t n 5 p = nI t := by rw [mKeep, ab_up_eq]
      refine ⟨by rw [o7, e5], Or.inr ⟨t, ht, e5, by rw [o _ _ (by omega)]; exact h1, ?_, by rw [o _ _ (by omega), mKeep_o (by decide) (by omega)]; exact hlife⟩⟩
      rw [mKeep_o (by decide) (by omega)]
      refine he.congr (fun j hj1 hj2 => o _ _ (by omega)) (fun j _ => o _ _ (by omega)) (fun i hi => ?_)
      by_cases h0 : i = 0
      · rw [if_pos h0, if_pos h0]
      · rw [if_neg h0, if_neg h0, mKeep_4, fil_in (by omega) (by omega), Nat.add_sub_cancel_left]
    · refine (hH p hp hpf).congr (fun j => o _ _ (by omega)) (fun j => o _ _ (by omega)) (mKeep_o (by decide) (by omega)) (fun i hi => ?_) (mKeep_o (by decide) (by omega)) (mKeep_o (by decide) (by omega))
      rw [mKeep_4]
      exact fil_out (by omega)
  · rw [c1, c2]
    dsimp only
    rw [if_neg nI03]
    obtain ⟨i, hi, e⟩ := (h.1 t ht).1 M hM
    have ew : xm y t M = 9 + 28 * t + 2 * i := e
    have om : ∀ a j, ¬ (a = 0 ∧ j = 7) → a ≠ 1 → ¬ (a = 2 ∧ j = t) → a ≠ 3 → mPut t (ab_up n 3 0 (nI f)) a j = n a j := fun a j a1 a2 a3 a4 => (mPut_o a1 a2 a3).trans (ab_up_ne a4)
    refine ⟨h.put hqm ht hM hm he, fun p hp => ?_, fun a j ha => xPut_o (by omega) (by omega) (by omega) (by omega), fun a j ha => om _ _ (by omega) (by omega) (by omega) (by omega)⟩
    by_cases hpf : p = f
    · subst hpf
      exact ⟨by rw [xPut_o (by omega) (by omega) (by omega) (by omega), om _ _ (by omega) (by omega) (by omega) (by omega), h7, h5], Or.inl (by rw [om _ _ (by omega) (by omega) (by omega) (by omega)]; exact h5)⟩
    · exact (hH p hp hpf).congr (fun j => xPut_o (by omega) (by omega) (by omega) (by omega)) (fun j => xPut_o (by omega) (by omega) (by omega) (by omega)) (om _ _ (by omega) (by omega) (by omega) (by omega)) (fun i _ => om _ _ (by omega) (by omega) (by omega) (by omega)) (om _ _ (by omega) (by omega) (by omega) (by omega)) (om _ _ (by omega) (by omega) (by omega) (by omega))
