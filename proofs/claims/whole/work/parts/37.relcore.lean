/-! THE CORE's SENDING AS A WHOLE: send, sendHeld, postLoose -/
def xW (s : Nat) (f k a b : Int32) (c : mD) : mD := ab_up (ab_up (ab_up (ab_up (ab_up (ab_up (ab_up c s 1 f) s 2 k) s 3 a) s 4 b) s 5 (nI 0)) s 6 (nI 0)) s 7 (-1)
theorem FX6_write_eq {s : Nat} {f k a b : Int32} {x : xD} : FX6_write s f k a b x = (xW s f k a b x.1, x.2) := rfl
theorem DX6_write_ok {s : Nat} {f k a b : Int32} {x : xD} (h : isX s 6) : DX6_write s f k a b x := ⟨h, trivial⟩
theorem xW_o {s : Nat} {f k a b : Int32} {c : mD} {q j : Nat} (h : q ≠ s) : xW s f k a b c q j = c q j := by
  rw [xW, ab_up_ne h, ab_up_ne h, ab_up_ne h, ab_up_ne h, ab_up_ne h, ab_up_ne h, ab_up_ne h]
theorem xW_s {s : Nat} {f k a b : Int32} {c : mD} : xW s f k a b c s 1 = f ∧ xW s f k a b c s 2 = k ∧ xW s f k a b c s 3 = a ∧ xW s f k a b c s 4 = b ∧ xW s f k a b c s 5 = 0 ∧ xW s f k a b c s 6 = 0 ∧ xW s f k a b c s 7 = -1 := by
  refine ⟨?_, ?_, ?_, ?_, ?_, ?_, ?_⟩ <;> simp [xW, ab_up] <;> rfl
theorem xW_eqM {s : Nat} {f k a b fk : Int32} {c : mD} {m : mD} (hk : ¬ k = 21 ∧ ¬ k = 22) : eqM fk (xW s f k a b c) s (fun i => if i = 0 then f else mDr k a b m 3 i) := by
  obtain ⟨w1, w2, w3, w4, w5, -⟩ := xW_s (s := s) (f := f) (k := k) (a := a) (b := b) (c := c)
  refine ⟨w1.trans (if_pos rfl).symm, ?_, ?_, ?_, ?_, fun h => ?_⟩
  · rw [w2]
    show k = mDr k a b m 3 1
    rw [mDr_3 (by decide), if_pos rfl]
  · rw [w3]
    show a = mDr k a b m 3 2
    rw [mDr_3 (by decide), if_neg (by decide), if_pos rfl]
  · rw [w4]
    show b = mDr k a b m 3 3
    rw [mDr_3 (by decide), if_neg (by decide), if_neg (by decide), if_pos rfl]
  · rw [w5]
    show 0 = mDr k a b m 3 4
    rw [mDr_3 (by decide), if_neg (by decide), if_neg (by decide), if_neg (by decide)]
  · have h : mDr k a b m 3 1 = 21 ∨ mDr k a b m 3 1 = 22 ∧ fk = 20 := h
    rw [mDr_3 (by decide), if_pos rfl] at h
    exact (h.elim hk.1 (fun z => hk.2 z.1)).elim
theorem RM.wr {x : xD} {m : mD} {s : Nat} {f k a b : Int32} (h : RM x m) (hs : s = 5 ∨ ∃ p, p < 12 ∧ s = 33 + 28 * p) : RM (xW s f k a b x.1, x.2) m := by
  refine h.xc (fun _ _ _ _ => rfl) (fun p hp => xW_o ?_) (fun p hp q j h1 h2 => xW_o ?_) (fun p hp => xW_o ?_) (xW_o ?_) (xW_o ?_) (xW_o ?_) <;> rcases hs with rfl | ⟨p2, hp2, rfl⟩ <;> omega
theorem RM.dr {x : xD} {m : mD} {k a b : Int32} (h : RM x m) : RM x (mDr k a b m) := h.mc (fun _ _ => mDr_q (by decide)) (fun _ _ => mDr_q (by decide)) (fun _ _ => mDr_q (by decide)) (fun _ _ => mDr_q (by decide))
theorem FX1_draft_eq {f : Nat} {k a b : Int32} {x : xD} (hf : f < 12) : FX1_draft (nI f) k a b x = (some (33 + 28 * f), (xW (33 + 28 * f) (nI f) k a b x.1, x.2)) ∧ DX1_draft (nI f) k a b x := by
  have hc : (nI f).toNatClampNeg = f := nI_clamp (by omega)
  rw [FX1_draft, DX1_draft, if_neg (isPart_nz hf), hc]
  exact ⟨rfl, fun z => absurd z (isPart_nz hf), fun _ => ⟨nI_pos (by omega), hf, DX6_write_ok (isX_dra hf), nI_pos (by omega), hf, trivial⟩⟩
/-- core.send(f, t, k, a, b) against drafts(k, a, b), sends(f, t) -/
theorem send_rel {x : xD} {m : mD} {f t : Nat} {k a b : Int32} (h : RM x m) (hH : RH x m) (hf : f < 12) (ht : t < 12) (hd : m 0 23 = 0 ∨ m 0 23 = 1) (hk : ¬ k = 21 ∧ ¬ k = 22) (hft : ¬ (f = 2 ∧ t = 1)) (h5 : m 5 f = -1) (htl : ¬ m 0 34 = 0) :
    DX1_send (nI f) (nI t) k a b x ∧ Dsends f t (Fdrafts k a b m) ∧ RM (FX1_send (nI f) (nI t) k a b x) (Fsends f t (Fdrafts k a b m)) ∧ RH (FX1_send (nI f) (nI t) k a b x) (Fsends f t (Fdrafts k a b m)) ∧ FrX x (FX1_send (nI f) (nI t) k a b x) ∧ FrM m (Fsends f t (Fdrafts k a b m)) := by
  obtain ⟨d1, d2⟩ := FX1_draft_eq (k := k) (a := a) (b := b) (x := x) hf
  obtain ⟨w1, w2, w3, w4, w5, w6, w7⟩ := xW_s (s := 33 + 28 * f) (f := nI f) (k := k) (a := a) (b := b) (c := x.1)
  have mq : ∀ q j, q ≠ 3 → mDr k a b m q j = m q j := fun q j hq => mDr_q hq
  rw [Fdrafts_eq]
  obtain ⟨c1, c2, c3, c4, c5, c6⟩ := sends_core (y := (xW (33 + 28 * f) (nI f) k a b x.1, x.2)) (n := mDr k a b m) (f := f) (t := t) ((h.wr (Or.inr ⟨f, hf, rfl⟩)).dr)
    (fun p hp hpf => (hH p hp).congr (fun j => xW_o (by omega)) (fun j => xW_o (by omega)) (mq _ _ (by decide)) (fun i _ => mq _ _ (by decide)) (mq _ _ (by decide)) (mq _ _ (by decide))) hf ht (by rw [mq _ _ (by decide)]; exact hd) w1 (xW_eqM hk) w7 (by rw [mq _ _ (by decide)]; exact h5) (by rw [if_neg hft]; exact w6) (by rw [mq _ _ (by decide)]; exact htl)
  have es : FX1_send (nI f) (nI t) k a b x = (FX1_post (33 + 28 * f) (nI t) (xW (33 + 28 * f) (nI f) k a b x.1, x.2)).2 := by
    rw [FX1_send, d1]
    rfl
  rw [es]
  refine ⟨⟨d2, fun _ => trivial, ?_⟩, c2, c3, c4, fun q j hq => (c5 q j hq).trans (xW_o (by omega)), fun q j hq => (c6 q j hq).trans (mq _ _ (by omega))⟩
  rw [d1]
  intro w hw
  cases hw
  exact ⟨c1, trivial⟩
theorem FsendsAgain_13_l {p t : Nat} {m : mD} (hp : p < 12) (ht : t < 12) (hm : m 5 p = nI t) (hD : Dsends p t (ab_up (fil m 3 0 13 (fun i => m 4 (13 * p + i))) 5 p (-1))) : ∀ (n k : Nat), k ≤ 13 → 13 - k < n → FsendsAgain_13 n p k (fil m 3 0 k (fun i => m 4 (13 * p + i))) = (nI 1, Fsends p t (ab_up (fil m 3 0 13 (fun i => m 4 (13 * p + i))) 5 p (-1))) ∧ DsendsAgain_13 n p k (fil m 3 0 k (fun i => m 4 (13 * p + i))) := by
  have hc : (nI t).toNatClampNeg = t := nI_clamp (by omega)
  intro n
  induction n with
  | zero => intro k _ h; omega
  | succ n ih =>
    intro k hk hn
    by_cases h : 13 ≤ k
    · have e : k = 13 := by omega
      subst e
      have e5 : fil m 3 0 13 (fun i => m 4 (13 * p + i)) 5 p = nI t := (fil_q (by decide)).trans hm
      rw [FsendsAgain_13, DsendsAgain_13, e5, hc, if_pos h]
      exact ⟨rfl, by decide, fun _ => ⟨hp, hp, nI_pos (by omega), hD, trivial⟩, fun q => absurd h q⟩
    · obtain ⟨h1, h2⟩ := ih (k + 1) (by omega) (by omega)
      have e := fil_s (m := m) (q := 3) (lo := 0) (k := k) (g := fun i => m 4 (13 * p + i))
      rw [Nat.zero_add] at e
      rw [FsendsAgain_13, if_neg h]
      dsimp only
      rw [fil_q (by decide), e]
      refine ⟨h1, by omega, fun q => absurd q h, fun _ => ⟨by omega, by omega, ?_⟩⟩
      dsimp only
      rw [fil_q (by decide), e]
      exact h2
/-- sendHeld(p) against sendsAgain(p) -/
theorem held_rel {x : xD} {m : mD} {p : Nat} (h : RM x m) (hH : RH x m) (hp : p < 12) (hd : m 0 23 = 0 ∨ m 0 23 = 1) (htl : ¬ m 0 34 = 0) :
    DX1_sendHeld (nI p) x ∧ DsendsAgain p m ∧ ((m 5 p = -1 ∧ FX1_sendHeld (nI p) x = (nI 0, x) ∧ FsendsAgain p m = (nI 0, m)) ∨
      ∃ x' m', ¬ m 5 p = -1 ∧ FX1_sendHeld (nI p) x = (nI 1, x') ∧ FsendsAgain p m = (nI 1, m') ∧ RM x' m' ∧ RH x' m' ∧ FrX x x' ∧ FrM m m') := by
  have hcp : (nI p).toNatClampNeg = p := nI_clamp (by omega)
  obtain ⟨a1, a2⟩ := hH p hp
  rcases a2 with a2 | ⟨t, ht, b1, b2, b3, b4⟩
  · have hn : ¬ (0 : Int32) ≤ m 5 p := by rw [a2]; decide
    have e7 : x.1 (33 + 28 * p) 7 = -1 := a1.trans a2
    refine ⟨?_, ⟨hp, fun z => absurd z hn, fun _ => trivial⟩, Or.inl ⟨a2, ?_, ?_⟩⟩
    · rw [DX1_sendHeld, hcp]
      exact ⟨fun _ => trivial, fun _ => ⟨nI_pos (by omega), hp, fun _ => trivial, fun z => absurd e7 z⟩⟩
    · rw [FX1_sendHeld, hcp, if_neg (isPart_nz hp), if_pos e7]
    · rw [FsendsAgain, if_neg hn]
  · have hn : (0 : Int32) ≤ m 5 p := by rw [b1]; exact nI_pos' (by omega)
    have hne : ¬ m 5 p = -1 := by
      rw [b1]
      intro z
      have z2 := congrArg Int32.toInt z
      rw [nI_toInt (by omega)] at z2
      have z3 : (-1 : Int32).toInt = -1 := by decide
      omega
    have e7 : x.1 (33 + 28 * p) 7 = nI t := a1.trans b1
    have e7n : ¬ x.1 (33 + 28 * p) 7 = -1 := by rw [a1]; exact hne
    have xo : ∀ q j, ¬ (q = 33 + 28 * p ∧ j = 7) → ((ab_up x.1 (33 + 28 * p) 7 (-1), x.2) : xD).1 q j = x.1 q j := fun q j hq => by
      show ab_up x.1 (33 + 28 * p) 7 (-1) q j = _
      by_cases e : q = 33 + 28 * p
      · subst e; exact ab_up_nj (fun z => hq ⟨rfl, z⟩)
      · exact ab_up_ne e
    have mo : ∀ q j, q ≠ 3 → ¬ (q = 5 ∧ j = p) → (ab_up (fil m 3 0 13 (fun i => m 4 (13 * p + i))) 5 p (-1)) q j = m q j := fun q j h1 h2 => by
      by_cases e : q = 5
      · subst e; rw [ab_up_nj (fun z => h2 ⟨rfl, z⟩), fil_q h1]
      · rw [ab_up_ne e, fil_q h1]
    have hx5 : RM (ab_up x.1 (33 + 28 * p) 7 (-1), x.2) m := h.xc (fun _ _ _ _ => rfl) (fun p2 _ => xo _ _ (by omega)) (fun p2 _ q j _ _ => xo _ _ (by omega)) (fun p2 _ => xo _ _ (by omega)) (xo _ _ (by omega)) (xo _ _ (by omega)) (xo _ _ (by omega))
    have hm5 : RM (ab_up x.1 (33 + 28 * p) 7 (-1), x.2) (ab_up (fil m 3 0 13 (fun i => m 4 (13 * p + i))) 5 p (-1)) := hx5.mc (fun _ _ => mo _ _ (by decide) (by omega)) (fun _ _ => mo _ _ (by decide) (by omega)) (fun _ _ => mo _ _ (by decide) (by omega)) (fun _ _ => mo _ _ (by decide) (by omega))
    obtain ⟨c1, c2, c3, c4, c5, c6⟩ := sends_core (t := t) hm5 (fun p2 hp2 hpf => (hH p2 hp2).congr (fun j => xo _ _ (by omega)) (fun j => xo _ _ (by omega)) (mo _ _ (by decide) (by omega)) (fun i _ => mo _ _ (by decide) (by omega)) (mo _ _ (by decide) (by omega)) (mo _ _ (by decide) (by omega))) hp ht (by rw [mo _ _ (by decide) (by omega)]; exact hd) (by rw [xo _ _ (by omega)]; exact b2)
      (by
        rw [mo 0 40 (by decide) (by omega)]
        refine b3.congr (fun j _ _ => xo _ _ (by omega)) (fun j _ => xo _ _ (by omega)) (fun i hi => ?_)
        by_cases h0 : i = 0
        · rw [if_pos h0, if_pos h0]
        · rw [if_neg h0, if_neg h0, ab_up_ne (by decide), fil_in (Nat.zero_le _) (by omega), Nat.sub_zero])
      ab_up_eq ab_up_eq (by rw [xo _ _ (by omega), mo _ _ (by decide) (by omega)]; exact b4) (by rw [mo _ _ (by decide) (by omega)]; exact htl)
    have hl := FsendsAgain_13_l hp ht b1 c2 14 0 (by decide) (by decide)
    rw [fil_0] at hl
    refine ⟨?_, ⟨hp, fun _ => hl.2, fun z => absurd hn z⟩, Or.inr ⟨_, _, hne, ?_, ?_, c3, c4, fun q j hq => (c5 q j hq).trans (xo _ _ (by omega)), fun q j hq => (c6 q j hq).trans (mo _ _ (by omega) (by omega))⟩⟩
    · rw [DX1_sendHeld, hcp]
      refine ⟨fun z => absurd z (isPart_nz hp), fun _ => ⟨nI_pos (by omega), hp, fun z => absurd z e7n, fun _ => ⟨nI_pos (by omega), hp, ?_, trivial⟩⟩⟩
      rw [e7]
      exact c1
    · rw [FX1_sendHeld, hcp, if_neg (isPart_nz hp), if_neg e7n, e7]
    · rw [FsendsAgain, if_pos hn]
      exact hl.1
