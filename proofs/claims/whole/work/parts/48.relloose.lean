/-! postLoose against drafts, send -/
theorem loose_rel {x : xD} {m : mD} {f t : Nat} {k a b c : Int32} (h : R3 x m) (hf : f < 12) (ht : t < 12) (hd : m 0 23 = 0 ∨ m 0 23 = 1) (hk : ¬ k = 21 ∧ ¬ k = 22) (hc : c = 0 ∨ f ≠ 2) :
    DX1_postLoose (nI f) (nI t) k a b x ∧ Dsend f t c (Fdrafts k a b m) ∧ (FX1_postLoose (nI f) (nI t) k a b x).1 = (Fsend f t c (Fdrafts k a b m)).1 ∧ R3 (FX1_postLoose (nI f) (nI t) k a b x).2 (Fsend f t c (Fdrafts k a b m)).2 := by
  obtain ⟨w1, w2, w3, w4, w5, w6, w7⟩ := xW_s (s := 5) (f := nI f) (k := k) (a := a) (b := b) (c := x.1)
  have mq : ∀ q j, q ≠ 3 → mDr k a b m q j = m q j := fun q j hq => mDr_q hq
  have r1 : RM (xW 5 (nI f) k a b x.1, x.2) (mDr k a b m) := (h.1.wr (Or.inl rfl)).dr
  have r2 : RH (xW 5 (nI f) k a b x.1, x.2) (mDr k a b m) := h.2.1.fr (fun p hp j => ⟨xW_o (by omega), xW_o (by omega)⟩) (fun _ _ => mq _ _ (by decide)) (fun _ _ => mq _ _ (by decide)) (mq _ _ (by decide)) (mq _ _ (by decide))
  have r3 : RR (xW 5 (nI f) k a b x.1, x.2).1 (mDr k a b m) := h.2.2.fr (fun q j hq => xW_o (by omega)) (fun q j hq => mq _ _ (by omega))
  have eL : FX1_postLoose (nI f) (nI t) k a b x = FX1_post 5 (nI t) (xW 5 (nI f) k a b x.1, x.2) := by
    rw [FX1_postLoose, FX6_write_eq]
  have dL : DX1_post 5 (nI t) (xW 5 (nI f) k a b x.1, x.2) → DX1_postLoose (nI f) (nI t) k a b x := fun z => ⟨DX6_write_ok (by decide), by rw [FX6_write_eq]; exact ⟨z, trivial⟩⟩
  have he : eqM (mDr k a b m 0 40) (xW 5 (nI f) k a b x.1) 5 (fun i => if i = 0 then nI f else mDr k a b m 3 i) := xW_eqM hk
  have hd' : mDr k a b m 0 23 = 0 ∨ mDr k a b m 0 23 = 1 := by rw [mq _ _ (by decide)]; exact hd
  rw [eL, Fdrafts_eq]
  clear h
  generalize mDr k a b m = n at *
  have w1 : ((xW 5 (nI f) k a b x.1, x.2) : xD).1 5 1 = nI f := w1
  have w6 : ((xW 5 (nI f) k a b x.1, x.2) : xD).1 5 6 = 0 := w6
  have he : eqM (n 0 40) ((xW 5 (nI f) k a b x.1, x.2) : xD).1 5 (fun i => if i = 0 then nI f else n 3 i) := he
  generalize ((xW 5 (nI f) k a b x.1, x.2) : xD) = y at *
  obtain ⟨p1, s1, cs⟩ := post_send (b := c) r1 (Or.inl rfl) w1 hf ht hd' ⟨fun _ z => hc.elim (fun e => z.1 e) (fun e => e z.2.1), fun _ => Or.inl w6⟩
  refine ⟨dL p1, s1, ?_⟩
  rcases cs with ⟨c1, c2⟩ | ⟨c1, c2⟩ | ⟨c1, c2⟩ | ⟨M, hM, hm, c1, c2⟩
  · rw [c1, c2]
    have o : ∀ q j, q ≠ 1 → (xForb y).1 q j = y.1 q j := fun q j hq => ab_up_ne hq
    have om : ∀ q j, ¬ (q = 0 ∧ j = 6) → mForb n q j = n q j := fun q j hq => ab_up_na hq
    exact ⟨rfl, r1.forb, r2.fr (fun p hp j => ⟨o _ _ (by omega), o _ _ (by omega)⟩) (fun p _ => om 5 p (by omega)) (fun i _ => om 4 i (by omega)) (om 0 40 (by omega)) (om 0 34 (by omega)), r3.fr (fun q j hq => o q j (by omega)) (fun q j hq => om q j (by omega))⟩
  · rw [c1, c2]
    exact ⟨rfl, r1, r2, r3⟩
  · rw [c1, c2]
    have o : ∀ q j, q ≠ 5 → (xHold 5 t y).1 q j = y.1 q j := fun q j hq => ab_up_ne hq
    exact ⟨rfl, r1.hold (Or.inl rfl), r2.fr (fun p hp j => ⟨o _ _ (by omega), o _ _ (by omega)⟩) (fun _ _ => rfl) (fun _ _ => rfl) rfl rfl, r3.fr (fun q j hq => o _ _ (by omega)) (fun _ _ _ => rfl)⟩
  · rw [c1, c2]
    obtain ⟨i, hi, e⟩ := (r1.1 t ht).1 M hM
    have ew : xm y t M = 9 + 28 * t + 2 * i := e
    have mo : ∀ q j, ¬ (q = 0 ∧ j = 7) → q ≠ 1 → ¬ (q = 2 ∧ j = t) → q ≠ 3 → mPut t (ab_up n 3 0 (nI f)) q j = n q j := fun q j a1 a2 a3 a4 => (mPut_o a1 a2 a3).trans (ab_up_ne a4)
    exact ⟨rfl, r1.put (Or.inl rfl) ht hM hm he, r2.fr (fun p hp j => ⟨xPut_o (by omega) (by omega) (by omega) (by omega), xPut_o (by omega) (by omega) (by omega) (by omega)⟩) (fun p _ => mo 5 p (by omega) (by omega) (by omega) (by omega)) (fun i _ => mo 4 i (by omega) (by omega) (by omega) (by omega)) (mo 0 40 (by omega) (by omega) (by omega) (by omega)) (mo 0 34 (by omega) (by omega) (by omega) (by omega)), r3.fr (fun q j hq => xPut_o (by omega) (by omega) (by omega) (by omega)) (fun q j hq => mo q j (by omega) (by omega) (by omega) (by omega))⟩
