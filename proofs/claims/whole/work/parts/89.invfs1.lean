/-! THE INVARIANT, X: FILES asks the driver; what FILES keeps -/
/-- what FILES keeps changes -/
theorem Inv.p4 {S : Nat} {m m' : mD} (h : Inv S m) (h1 : ∀ q j, q = 1 ∨ q = 2 ∨ q = 4 ∨ q = 5 ∨ q = 7 ∨ q = 11 → m' q j = m q j) (h0 : ∀ j, (23 ≤ j ∧ j ≤ 28) ∨ (32 ≤ j ∧ j ≤ 35) ∨ j = 40 ∨ (43 ≤ j ∧ j ≤ 46) → m' 0 j = m 0 j) (h4 : iP4 m') : Inv S m' := by
  obtain ⟨a1, a2, a3, -⟩ := h
  exact ⟨a1.fr (fun i => h1 1 i (by omega)) (fun i _ => h1 2 i (by omega)) (fun i => h1 4 i (by omega)) (fun i _ => h1 5 i (by omega)) (fun j hj => h0 j (by omega)), a2.fr (Nat.le_refl _) (fun _ => h1 2 1 (by omega)) (fun j hj => h0 j (by omega)), a3.fr (fun j => h1 7 j (by omega)) (fun j => h1 11 j (by omega)) (fun u _ => h1 5 u (by omega)) (fun j hj hj2 => h0 j (by omega)), h4⟩
theorem dq_ask {m : mD} : dq 2 (mAsk m) = (nI 2, m 0 40, m 0 41, nI 0) := by
  have m3 : ∀ j, j < 5 → mAsk m 3 j = mDr (m 0 40) (m 0 41) (nI 0) (ab_up m 0 35 (nI 1)) 3 j := fun j hj => by rw [mAsk, fil_out (by omega)]
  rw [dq, m3 1 (by decide), m3 2 (by decide), m3 3 (by decide), mDr_3 (by decide), mDr_3 (by decide), mDr_3 (by decide)]
  rfl
/-- FILES asks the driver: n the state with its request written down -/
theorem Inv.ask {S B : Nat} {n : mD} (hn : iMan n) (hm : iMs n) (hT : iTk 0 n) (hd : n 0 23 = 0 ∨ n 0 23 = 1) (h1 : iP1 S n) (h3 : iP3 n) (h4 : iP4 (ab_up n 0 35 (nI 1))) (hk : n 0 40 = nI 20 ∨ n 0 40 = nI 21) (hB : B < 24) (h41 : n 0 41 = nI B) : Inv S (FasksDriver n) := by
  have mo : ∀ a j, ¬ a = 3 → ¬ (a = 0 ∧ j = 35) → mAsk n a j = n a j := fun a j h3 h35 => by rw [mAsk, fil_q h3, mDr_q h3, ab_up_na h35]
  have m35 : mAsk n 0 35 = 1 := by rw [mAsk, fil_q (by decide), mDr_q (by decide), ab_up_eq]; rfl
  have n1 : iMan (mAsk n) := hn.fr (fun i _ => mo 2 i (by omega) (by omega)) (fun i _ => mo 5 i (by omega) (by omega))
  have s1 : iMs (mAsk n) := hm.fr (fun i => mo 1 i (by omega) (by omega)) (fun i _ => mo 2 i (by omega) (by omega)) (fun i => mo 4 i (by omega) (by omega)) (fun i _ => mo 5 i (by omega) (by omega))
  have T1 : iTk 0 (mAsk n) := by
    obtain ⟨L, hL, hT⟩ : ∃ L, L = 0 ∧ iTk L n := ⟨0, rfl, hT⟩
    suffices K : iTk L (mAsk n) by rw [hL] at K; exact K
    obtain ⟨a1, a2, a3, a4, a5, a6, a7, a8, a9, a10, a11⟩ := hT
    rw [iTk, mo 0 40 (by omega) (by omega), mo 0 27 (by omega) (by omega), mo 0 23 (by omega) (by omega), mo 0 34 (by omega) (by omega), mo 0 25 (by omega) (by omega), mo 2 1 (by omega) (by omega), mo 2 2 (by omega) (by omega), mo 5 0 (by omega) (by omega), mo 5 1 (by omega) (by omega), mo 5 2 (by omega) (by omega), kq_fr (fun i => mo 4 i (by omega) (by omega)), kq_fr (fun i => mo 4 i (by omega) (by omega))]
    simp only [mq_fr (fun i => mo 1 i (by omega) (by omega))]
    exact ⟨a1, a2, a3, a4, a5, a6, fun z => absurd hL z, a8, a9, a10, a11⟩
  have hd1 : mAsk n 0 23 = 0 ∨ mAsk n 0 23 = 1 := by rw [mo 0 23 (by omega) (by omega)]; exact hd
  obtain ⟨M, hM, em⟩ := n1.1 1 (by decide)
  have D := (Fsends_cases (f := 2) (t := 1) (by decide) (by decide) em hM hd1).1
  have T2 := T1.req n1 hd1 m35 (by rw [dq_ask, mo 0 40 (by omega) (by omega)])
  have s2 := s1.sends n1 (by decide) (by decide) hd1 (f := 2) (t := 1) (by
    rw [dq_ask]
    exact Or.inr (Or.inr (Or.inr (Or.inl ⟨rfl, Or.inl ⟨rfl, hk, B, hB, h41⟩⟩))))
  have Fr := Fsends_fr (f := 2) (t := 1) n1 (by decide) (by decide) hd1
  have fr : ∀ a j, (6 ≤ a ∨ (a = 0 ∧ j ≠ 6 ∧ j ≠ 7)) → Fsends 2 1 (mAsk n) a j = mAsk n a j := fun a j ha => Fr.1 a j ha
  rw [(FasksDriver_eq D).1]
  refine ⟨⟨Fr.2.2.1, s2, T2, by rw [fr 0 23 (by omega)]; exact hd1⟩, h1.fr (Nat.le_refl _) (fun z => ?_) (fun j hj => by rw [fr 0 j (by omega)]; exact mo 0 j (by omega) (by omega)), h3.fr (fun j => by rw [fr 7 j (by omega)]; exact mo 7 j (by omega) (by omega)) (fun j => by rw [fr 11 j (by omega)]; exact mo 11 j (by omega) (by omega)) (fun u hu => by rw [Fr.2.1 u (by omega)]; exact mo 5 u (by omega) (by omega)) (fun j _ _ => by rw [fr 0 j (by omega)]; exact mo 0 j (by omega) (by omega)), h4.fr (fun q j _ _ => by rw [fr q j (by omega), mAsk, fil_q (by omega), mDr_q (by omega)]) (fun j _ _ => by rw [fr 0 j (by omega), mAsk, fil_q (by decide), mDr_q (by decide)])⟩
  rw [Fsends_dead n1 (by decide) (by decide) (by rw [mo 0 23 (by omega) (by omega)]; exact z)]
  exact mo 2 1 (by omega) (by omega)
/-- while FILES doesn't wait there is no request -/
theorem Inv.noreq {S : Nat} {m : mD} (h : Inv S m) (h35 : m 0 35 = 0) : iTk 0 m := by
  obtain ⟨L, hL⟩ := h.1.2.2.1
  have e : L = 0 := by
    apply Classical.byContradiction
    intro z
    have := hL.2.2.2.2.2.2.1 z
    rw [h35] at this
    exact absurd this (by decide)
  rw [e] at hL
  exact hL
theorem iTk.set40 {m : mD} {v : Int32} (h : iTk 0 m) : iTk 0 (ab_up m 0 40 v) := by
  obtain ⟨a1, a2, a3, a4, a5, a6, a7, a8, a9, a10, a11⟩ := h
  exact ⟨fun M k hM e hk z => absurd (a1 M k hM e hk z).1 (by decide), a2, fun z => absurd (a3 z).1 (by decide), fun z => absurd (a4 z).1 (by decide), a5, a6, fun z => absurd rfl z, fun z => by omega, a9, a10, a11⟩
/-- in hand, and asked: a request of a call -/
theorem Inv.hand {S B v d : Nat} {m : mD} {w st k b : Int32} (h : Inv S m) (h35 : m 0 35 = 0) (hk : k = nI 20 ∨ k = nI 21) (hB : B < 24) (hb : b = nI B) (h4 : iP4 (ab_up (mHand (nI (v + 4)) (nI (4 * (v + 4) + d)) w st k b m) 0 35 (nI 1))) : Inv S (FasksDriver (mHand (nI (v + 4)) (nI (4 * (v + 4) + d)) w st k b m)) := by
  have T := h.noreq h35
  obtain ⟨⟨a1, a2, -, a4⟩, h1, h3, -⟩ := h
  have mo : ∀ a j, ¬ (a = 0 ∧ 36 ≤ j ∧ j ≤ 41) → mHand (nI (v + 4)) (nI (4 * (v + 4) + d)) w st k b m a j = m a j := fun a j => mHand_o
  have m40 : mHand (nI (v + 4)) (nI (4 * (v + 4) + d)) w st k b m 0 40 = k := by rw [mHand, ab_up_nj (by decide), ab_up_eq]
  have m41 : mHand (nI (v + 4)) (nI (4 * (v + 4) + d)) w st k b m 0 41 = b := by rw [mHand, ab_up_eq]
  refine Inv.ask (B := B) (a1.fr (fun i _ => mo 2 i (by omega)) (fun i _ => mo 5 i (by omega))) (a2.fr (fun i => mo 1 i (by omega)) (fun i _ => mo 2 i (by omega)) (fun i => mo 4 i (by omega)) (fun i _ => mo 5 i (by omega))) ?_ (by rw [mo 0 23 (by omega)]; exact a4) (h1.fr (Nat.le_refl _) (fun _ => mo 2 1 (by omega)) (fun j hj => mo 0 j (by omega))) (h3.fr (fun j => mo 7 j (by omega)) (fun j => mo 11 j (by omega)) (fun u _ => mo 5 u (by omega)) (fun j _ _ => mo 0 j (by omega))) h4 (by rw [m40]; exact hk) hB (by rw [m41]; exact hb)
  refine (T.set40 (v := k)).fr (fun i => ?_) (fun i _ => ?_) (fun i => ?_) (fun i _ => ?_) (fun j hj => ?_)
  · rw [mo 1 i (by omega), ab_up_ne (by decide)]
  · rw [mo 2 i (by omega), ab_up_ne (by decide)]
  · rw [mo 4 i (by omega), ab_up_ne (by decide)]
  · rw [mo 5 i (by omega), ab_up_ne (by decide)]
  · by_cases e : j = 40
    · subst e; rw [m40, ab_up_eq]
    · rw [mo 0 j (by omega), ab_up_nj e]
/-- a file that is there: its size -/
theorem iP4.size {m : mD} {g : Nat} (h : iP4 m) (hg : g < 16) (ht : m 16 g = 1) : ∃ S, S ≤ 32 ∧ m 17 g = nI S ∧ (∀ b, b < 4 → 8 * b < S → ∃ B, B < 24 ∧ m 18 (4 * g + b) = nI B) := by
  obtain ⟨-, -, -, -, -, a6, a7, -⟩ := h
  obtain ⟨S, b1, b2, b3, -⟩ := a7 g hg ht
  refine ⟨S, b1, b2, fun b hb hs => ?_⟩
  rcases a6 (4 * g + b) (by omega) with z | z
  · exact absurd (by rw [z]; decide) (b3 b hb hs)
  · exact z
/-- the request written down: iP4 of the state that waits -/
theorem iP4.hand {m : mD} {v d g P S B : Nat} {w st k : Int32} (h : iP4 m) (h35 : m 0 35 = 0) (hv : v < 8) (hd : d < 4) (hg : g < 16) (e14 : m 14 (4 * (v + 4) + d) = nI g) (ht : m 16 g = 1) (e15 : m 15 (4 * (v + 4) + d) = nI P) (e17 : m 17 g = nI S) (hPS : P ≤ S) (hS : S ≤ 32) (hP : P < 32) (hB : B < 24) (e18 : m 18 (4 * g + P / 8) = nI B) (hst : (st = nI 1 ∧ k = nI 20 ∧ P < S) ∨ (st = nI 2 ∧ k = nI 20) ∨ (st = nI 3 ∧ k = nI 21)) : iP4 (ab_up (mHand (nI (v + 4)) (nI (4 * (v + 4) + d)) w st k (nI B) m) 0 35 (nI 1)) := by
  obtain ⟨a1, a2, a3, a4, a5, a6, a7, a8, a9, a10⟩ := h
  refine ⟨a1, a2, a3, a4, a5, a6, fun i hi hti => ?_, fun _ => ⟨v, d, g, P, S, B, hv, hd, hg, hPS, hS, hP, hB, rfl, rfl, e14, ht, e15, e17, rfl, e18, hst⟩, Or.inr rfl, fun i S' b hi hti hS' e' hb hle => ?_⟩
  · obtain ⟨S', b1, b2, b3, -⟩ := a7 i hi hti
    exact ⟨S', b1, b2, b3, fun z => absurd (show nI 1 = 0 from z) (by decide)⟩
  · rcases a10 i S' b hi hti hS' e' hb hle with z | z
    · exact Or.inl z
    · rw [h35] at z; exact absurd z.1 (by decide)
theorem Inv.reads {S0 v d g : Nat} {m : mD} (h : Inv S0 m) (h35 : m 0 35 = 0) (hv : v < 8) (hd : d < 4) (hg : g < 16) (e14 : m 14 (4 * (v + 4) + d) = nI g) : Inv S0 (Freads (v + 4) (4 * (v + 4) + d) g m) := by
  obtain ⟨t1, P, S, hPS, hS, e15, e17⟩ := h.2.2.2.2.1 v d g hv hd hg e14
  rw [Freads, e15, e17]
  by_cases c : P = S
  · subst c
    rw [if_pos rfl]; exact h.tells (Or.inl rfl) (by omega) (by omega)
  · have ce : ¬ nI P = nI S := fun z => c ((nI_eq (by omega) (by omega)).mp z)
    obtain ⟨S', b1, b2, b3⟩ := h.2.2.2.size hg t1
    have eS : S' = S := (nI_eq (by omega) (by omega)).mp (b2.symm.trans e17)
    subst eS
    obtain ⟨B, hB, eB⟩ := b3 (P / 8) (by omega) (by omega)
    have dv : nI P / nI 8 = nI (P / 8) := pk_div (by omega) (by decide) (by decide)
    have ei : nI (4 * g) + nI (P / 8) = nI (4 * g + P / 8) := nI_add _ _
    have hci : (nI (4 * g + P / 8)).toNatClampNeg = 4 * g + P / 8 := nI_clamp (by omega)
    have e18 : ab_up (ab_up (ab_up (ab_up m 0 37 (nI (v + 4))) 0 38 (nI (4 * (v + 4) + d))) 0 36 (nI 1)) 0 40 (nI 20) 18 (4 * g + P / 8) = m 18 (4 * g + P / 8) := by rw [ab_up_ne (by decide), ab_up_ne (by decide), ab_up_ne (by decide), ab_up_ne (by decide)]
    have eM : mHand (nI (v + 4)) (nI (4 * (v + 4) + d)) (m 0 39) (nI 1) (nI 20) (nI B) m = ab_up (ab_up (ab_up (ab_up (ab_up m 0 37 (nI (v + 4))) 0 38 (nI (4 * (v + 4) + d))) 0 36 (nI 1)) 0 40 (nI 20)) 0 41 (nI B) := by
      have e : ab_up (ab_up (ab_up m 0 37 (nI (v + 4))) 0 38 (nI (4 * (v + 4) + d))) 0 39 (m 0 39) = ab_up (ab_up m 0 37 (nI (v + 4))) 0 38 (nI (4 * (v + 4) + d)) := ab_up_self (by rw [ab_up_nj (by decide), ab_up_nj (by decide)])
      rw [mHand, e]
    rw [if_neg ce, dv, ei, hci]
    dsimp only
    rw [e18, eB, ← eM]
    exact h.hand h35 (Or.inl rfl) hB rfl (h.2.2.2.hand h35 hv hd hg e14 t1 e15 e17 hPS hS (by omega) hB eB (Or.inl ⟨rfl, rfl, by omega⟩))
