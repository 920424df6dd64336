/-! THE INVARIANT, XI: WRITE, 22, 42 -/
theorem asks_D {n : mD} (hn : iMan n) (hd : n 0 23 = 0 ∨ n 0 23 = 1) : DasksDriver n := by
  have mo : ∀ a j, ¬ a = 3 → ¬ (a = 0 ∧ j = 35) → mAsk n a j = n a j := fun a j h3 h35 => by rw [mAsk, fil_q h3, mDr_q h3, ab_up_na h35]
  obtain ⟨M, hM, em⟩ := hn.1 1 (by decide)
  exact (FasksDriver_eq (Fsends_cases (f := 2) (t := 1) (by decide) (by decide) ((mo 2 1 (by omega) (by omega)).trans em) hM (by rw [mo 0 23 (by omega) (by omega)]; exact hd)).1).2
theorem tells_D {m : mD} {f u : Nat} {v : Int32} (hn : iMan m) (hd : m 0 23 = 0 ∨ m 0 23 = 1) (hf : f < 12) (hu : u < 12) : Dtells f u v m := by
  obtain ⟨M, hM, em⟩ := hn.1 u hu
  refine ⟨Ddrafts_ok _ _ _ _, ?_, trivial⟩
  rw [Fdrafts_eq]
  exact (Fsends_cases (f := f) (t := u) hf hu (by rw [mDr_q (by decide)]; exact em) hM (by rw [mDr_q (by decide)]; exact hd)).1
/-- a request written down over a state without one -/
theorem Inv.ask2 {S B : Nat} {m n : mD} (h : Inv S m) (T : iTk 0 m) (mo : ∀ q j, q = 1 ∨ q = 2 ∨ q = 4 ∨ q = 5 ∨ q = 7 ∨ q = 11 → n q j = m q j) (m0 : ∀ j, (23 ≤ j ∧ j ≤ 28) ∨ (32 ≤ j ∧ j ≤ 34) ∨ (43 ≤ j ∧ j ≤ 46) → n 0 j = m 0 j) (hk : n 0 40 = nI 20 ∨ n 0 40 = nI 21) (hB : B < 24) (hb : n 0 41 = nI B) (h4 : iP4 (ab_up n 0 35 (nI 1))) : Inv S (FasksDriver n) := by
  obtain ⟨⟨a1, a2, -, a4⟩, h1, h3, -⟩ := h
  refine Inv.ask (B := B) (a1.fr (fun i _ => mo 2 i (by omega)) (fun i _ => mo 5 i (by omega))) (a2.fr (fun i => mo 1 i (by omega)) (fun i _ => mo 2 i (by omega)) (fun i => mo 4 i (by omega)) (fun i _ => mo 5 i (by omega))) ?_ (by rw [m0 23 (by omega)]; exact a4) (h1.fr (Nat.le_refl _) (fun _ => mo 2 1 (by omega)) (fun j hj => m0 j (by omega))) (h3.fr (fun j => mo 7 j (by omega)) (fun j => mo 11 j (by omega)) (fun u _ => mo 5 u (by omega)) (fun j _ _ => m0 j (by omega))) h4 hk hB hb
  obtain ⟨L, hL, T'⟩ : ∃ L, L = 0 ∧ iTk L (ab_up m 0 40 (n 0 40)) := ⟨0, rfl, T.set40⟩
  suffices K : iTk L n by rw [hL] at K; exact K
  obtain ⟨b1, b2, b3, b4, b5, b6, b7, b8, b9, b10, b11⟩ := T'
  rw [iTk, m0 27 (by omega), m0 23 (by omega), m0 34 (by omega), m0 25 (by omega), mo 2 1 (by omega), mo 2 2 (by omega), mo 5 0 (by omega), mo 5 1 (by omega), mo 5 2 (by omega), kq_fr (fun i => mo 4 i (by omega)), kq_fr (fun i => mo 4 i (by omega))]
  simp only [mq_fr (fun i => mo 1 i (by omega))]
  exact ⟨b1, b2, b3, b4, b5, b6, fun z => absurd hL z, b8, b9, b10, b11⟩
/-- FILES waits no more -/
theorem Inv.fin {S : Nat} {m n : mD} (h : Inv S m) (T : iTk 0 m) (mo : ∀ q j, q = 1 ∨ q = 2 ∨ q = 4 ∨ q = 5 ∨ q = 7 ∨ q = 11 → n q j = m q j) (m0 : ∀ j, (23 ≤ j ∧ j ≤ 28) ∨ (32 ≤ j ∧ j ≤ 34) ∨ j = 40 ∨ (43 ≤ j ∧ j ≤ 46) → n 0 j = m 0 j) (h4 : iP4 n) : Inv S n := by
  obtain ⟨⟨a1, a2, -, a4⟩, h1, h3, -⟩ := h
  refine ⟨⟨a1.fr (fun i _ => mo 2 i (by omega)) (fun i _ => mo 5 i (by omega)), a2.fr (fun i => mo 1 i (by omega)) (fun i _ => mo 2 i (by omega)) (fun i => mo 4 i (by omega)) (fun i _ => mo 5 i (by omega)), ⟨0, ?_⟩, by rw [m0 23 (by omega)]; exact a4⟩, h1.fr (Nat.le_refl _) (fun _ => mo 2 1 (by omega)) (fun j hj => m0 j (by omega)), h3.fr (fun j => mo 7 j (by omega)) (fun j => mo 11 j (by omega)) (fun u _ => mo 5 u (by omega)) (fun j _ _ => m0 j (by omega)), h4⟩
  obtain ⟨L, hL, T'⟩ : ∃ L, L = 0 ∧ iTk L m := ⟨0, rfl, T⟩
  suffices K : iTk L n by rw [hL] at K; exact K
  obtain ⟨b1, b2, b3, b4, b5, b6, b7, b8, b9, b10, b11⟩ := T'
  rw [iTk, m0 27 (by omega), m0 23 (by omega), m0 34 (by omega), m0 25 (by omega), m0 40 (by omega), mo 2 1 (by omega), mo 2 2 (by omega), mo 5 0 (by omega), mo 5 1 (by omega), mo 5 2 (by omega), kq_fr (fun i => mo 4 i (by omega)), kq_fr (fun i => mo 4 i (by omega))]
  simp only [mq_fr (fun i => mo 1 i (by omega))]
  exact ⟨b1, b2, b3, b4, b5, b6, fun z => absurd hL z, b8, b9, b10, b11⟩
theorem Inv.writes {S0 v d g : Nat} {m : mD} {w : Int32} (h : Inv S0 m) (h35 : m 0 35 = 0) (hv : v < 8) (hd : d < 4) (hg : g < 16) (e14 : m 14 (4 * (v + 4) + d) = nI g) : Inv S0 (Fwrites (v + 4) (4 * (v + 4) + d) g w m) := by
  have T := h.noreq h35
  have hdd := h.1.2.2.2
  obtain ⟨t1, P, S, hPS, hS, e15, e17⟩ := h.2.2.2.2.1 v d g hv hd hg e14
  rw [Fwrites, e15]
  by_cases c32 : P = 32
  · rw [if_pos (by rw [c32])]; exact h.tells (Or.inl rfl) (by omega) (by omega)
  · have n32 : ¬ nI P = nI 32 := fun z => c32 ((nI_eq (by omega) (by decide)).mp z)
    have hP : P < 32 := by omega
    obtain ⟨S', b1, b2, b3⟩ := h.2.2.2.size hg t1
    have eS : S' = S := (nI_eq (by omega) (by omega)).mp (b2.symm.trans e17)
    subst eS
    have m17 : ab_up (ab_up (ab_up m 0 37 (nI (v + 4))) 0 38 (nI (4 * (v + 4) + d))) 0 39 w 17 g = nI S' := by rw [ab_up_ne (by decide), ab_up_ne (by decide), ab_up_ne (by decide), e17]
    have dv : nI P / nI 8 = nI (P / 8) := pk_div (by omega) (by decide) (by decide)
    have ei : nI (4 * g) + nI (P / 8) = nI (4 * g + P / 8) := nI_add _ _
    have hci : (nI (4 * g + P / 8)).toNatClampNeg = 4 * g + P / 8 := nI_clamp (by omega)
    have rm : nI P - nI P / nI 8 * nI 8 = nI (P % 8) := pk_rem (by omega) (by decide) (by decide)
    have e18 : ab_up (ab_up (ab_up (ab_up (ab_up m 0 37 (nI (v + 4))) 0 38 (nI (4 * (v + 4) + d))) 0 39 w) 0 36 (nI 2)) 0 40 (nI 20) 18 (4 * g + P / 8) = m 18 (4 * g + P / 8) := by rw [ab_up_ne (by decide), ab_up_ne (by decide), ab_up_ne (by decide), ab_up_ne (by decide), ab_up_ne (by decide)]
    have fetch : 8 * (P / 8) < S' → Inv S0 (FasksDriver (ab_up (ab_up (ab_up (ab_up (ab_up (ab_up m 0 37 (nI (v + 4))) 0 38 (nI (4 * (v + 4) + d))) 0 39 w) 0 36 (nI 2)) 0 40 (nI 20)) 0 41 (m 18 (4 * g + P / 8)))) := fun hlt => by
      obtain ⟨B, hB, eB⟩ := b3 (P / 8) (by omega) hlt
      rw [eB]
      exact h.hand (v := v) (d := d) (w := w) (st := nI 2) (k := nI 20) h35 (Or.inl rfl) hB rfl (h.2.2.2.hand h35 hv hd hg e14 t1 e15 e17 hPS hS hP hB eB (Or.inr (Or.inl ⟨rfl, rfl⟩)))
    rw [if_neg n32]
    dsimp only
    rw [m17]
    by_cases cS : P = S'
    · rw [if_pos (by rw [cS])]
      by_cases c8 : P % 8 = 0
      · have r0 : nI P - nI P / nI 8 * nI 8 = 0 := by rw [rm, c8]; exact nI00
        rw [if_pos r0]
        subst cS
        obtain ⟨f, hf, f1, f2⟩ := first_ex (fun j => m 19 j = 0) 24
        have q : ∀ a j, ¬ (a = 0 ∧ 37 ≤ j ∧ j ≤ 39) → ab_up (ab_up (ab_up m 0 37 (nI (v + 4))) 0 38 (nI (4 * (v + 4) + d))) 0 39 w a j = m a j := fun a j ha => by rw [ab_up_na (by omega), ab_up_na (by omega), ab_up_na (by omega)]
        generalize hm4 : ab_up (ab_up (ab_up m 0 37 (nI (v + 4))) 0 38 (nI (4 * (v + 4) + d))) 0 39 w = m4 at *
        have q37 : m4 0 37 = nI (v + 4) := by rw [← hm4, ab_up_nj (by decide), ab_up_nj (by decide), ab_up_eq]
        have q38 : m4 0 38 = nI (4 * (v + 4) + d) := by rw [← hm4, ab_up_nj (by decide), ab_up_eq]
        have mn : iMan m4 := h.man.fr (fun i _ => q 2 i (by omega)) (fun i _ => q 5 i (by omega))
        have m4d : m4 0 23 = 0 ∨ m4 0 23 = 1 := by rw [q 0 23 (by omega)]; exact hdd
        have D128 : f < 24 → iMan (mSt g P (fil (ab_up (ab_up m4 19 f (nI 1)) 18 (4 * g + P / 8) (nI f)) 22 0 8 (gW w))) ∧ _ := fun _ => ⟨mn.fr (fun i _ => by rw [mSt, ab_up_ne (by decide), ab_up_ne (by decide), ab_up_ne (by decide), fil_q (by decide), ab_up_ne (by decide), ab_up_ne (by decide)]) (fun i _ => by rw [mSt, ab_up_ne (by decide), ab_up_ne (by decide), ab_up_ne (by decide), fil_q (by decide), ab_up_ne (by decide), ab_up_ne (by decide)]), trivial⟩
        have L128 := fun hf24 : f < 24 => Fwrites_128_l (m := ab_up (ab_up m4 19 f (nI 1)) 18 (4 * g + P / 8) (nI f)) (u := v + 4) (s := 4 * (v + 4) + d) (w := w) hg hP (asks_D (D128 hf24).1 (by
          rw [mSt, ab_up_nj (by decide), ab_up_nj (by decide), ab_up_nj (by decide), fil_q (by decide), ab_up_ne (by decide), ab_up_ne (by decide)]; exact m4d)) 25 0 (by omega) (by omega)
        have p1 := (Fwrites_62_l (m := m4) (u := v + 4) (s := 4 * (v + 4) + d) (w := w) hg hP hf (fun j hj => by rw [q 19 j (by omega)]; exact f1 j hj) (fun hj => by rw [q 19 f (by omega)]; exact f2 hj) (fun hf24 => by
          have := (L128 hf24).2
          rw [fil_0] at this
          exact this) (fun _ => tells_D mn m4d (by decide) (by omega)) 25 0 (by omega) (by omega)).1
        rw [p1]
        by_cases hf24 : f < 24
        · have l1 := (L128 hf24).1
          rw [fil_0] at l1
          rw [if_pos hf24, l1]
          have g0 : ∀ a j, ¬ (a = 0 ∧ 36 ≤ j ∧ j ≤ 41) → ¬ (a = 18 ∧ j = 4 * g + P / 8) → ¬ a = 19 → ¬ a = 22 → mSt g P (fil (ab_up (ab_up m4 19 f (nI 1)) 18 (4 * g + P / 8) (nI f)) 22 0 8 (gW w)) a j = m a j := fun a j c1 c2 c3 c4 => by
            rw [mSt, ab_up_na (by omega), ab_up_na (by omega), ab_up_na (by omega), fil_q c4, ab_up_na c2, ab_up_ne c3]; exact q a j (by omega)
          have g18 : mSt g P (fil (ab_up (ab_up m4 19 f (nI 1)) 18 (4 * g + P / 8) (nI f)) 22 0 8 (gW w)) 18 (4 * g + P / 8) = nI f := by rw [mSt, ab_up_ne (by decide), ab_up_ne (by decide), ab_up_ne (by decide), fil_q (by decide), ab_up_eq]
          have g41 : mSt g P (fil (ab_up (ab_up m4 19 f (nI 1)) 18 (4 * g + P / 8) (nI f)) 22 0 8 (gW w)) 0 41 = nI f := by rw [mSt, ab_up_eq, fil_q (by decide), ab_up_eq]
          have g40 : mSt g P (fil (ab_up (ab_up m4 19 f (nI 1)) 18 (4 * g + P / 8) (nI f)) 22 0 8 (gW w)) 0 40 = nI 21 := by rw [mSt, ab_up_nj (by decide), ab_up_eq]
          have g36 : mSt g P (fil (ab_up (ab_up m4 19 f (nI 1)) 18 (4 * g + P / 8) (nI f)) 22 0 8 (gW w)) 0 36 = nI 3 := by rw [mSt, ab_up_nj (by decide), ab_up_nj (by decide), ab_up_eq]
          have g37 : mSt g P (fil (ab_up (ab_up m4 19 f (nI 1)) 18 (4 * g + P / 8) (nI f)) 22 0 8 (gW w)) 0 37 = nI (v + 4) := by rw [mSt, ab_up_nj (by decide), ab_up_nj (by decide), ab_up_nj (by decide), fil_q (by decide), ab_up_ne (by decide), ab_up_ne (by decide)]; exact q37
          have g38 : mSt g P (fil (ab_up (ab_up m4 19 f (nI 1)) 18 (4 * g + P / 8) (nI f)) 22 0 8 (gW w)) 0 38 = nI (4 * (v + 4) + d) := by rw [mSt, ab_up_nj (by decide), ab_up_nj (by decide), ab_up_nj (by decide), fil_q (by decide), ab_up_ne (by decide), ab_up_ne (by decide)]; exact q38
          generalize mSt g P (fil (ab_up (ab_up m4 19 f (nI 1)) 18 (4 * g + P / 8) (nI f)) 22 0 8 (gW w)) = n at *
          obtain ⟨a1, a2, a3, a4, a5, a6, a7, a8, a9, a10⟩ := h.2.2.2
          have s14 : ∀ j, (ab_up n 0 35 (nI 1)) 14 j = m 14 j := fun j => by rw [ab_up_ne (by decide)]; exact g0 14 j (by omega) (by omega) (by omega) (by omega)
          have s15 : ∀ j, (ab_up n 0 35 (nI 1)) 15 j = m 15 j := fun j => by rw [ab_up_ne (by decide)]; exact g0 15 j (by omega) (by omega) (by omega) (by omega)
          have s16 : ∀ j, (ab_up n 0 35 (nI 1)) 16 j = m 16 j := fun j => by rw [ab_up_ne (by decide)]; exact g0 16 j (by omega) (by omega) (by omega) (by omega)
          have s17 : ∀ j, (ab_up n 0 35 (nI 1)) 17 j = m 17 j := fun j => by rw [ab_up_ne (by decide)]; exact g0 17 j (by omega) (by omega) (by omega) (by omega)
          have s18 : ∀ j, ¬ j = 4 * g + P / 8 → (ab_up n 0 35 (nI 1)) 18 j = m 18 j := fun j hj => by rw [ab_up_ne (by decide)]; exact g0 18 j (by omega) (by omega) (by omega) (by omega)
          have s18' : (ab_up n 0 35 (nI 1)) 18 (4 * g + P / 8) = nI f := by rw [ab_up_ne (by decide)]; exact g18
          have s0 : ∀ j, ¬ j = 35 → (ab_up n 0 35 (nI 1)) 0 j = n 0 j := fun j hj => ab_up_nj hj
          refine h.ask2 (B := f) T (fun q2 j hq => g0 q2 j (by omega) (by omega) (by omega) (by omega)) (fun j hj => g0 0 j (by omega) (by omega) (by omega) (by omega)) (Or.inr g40) hf24 g41 ⟨fun u e hu he => by rw [s14]; exact a1 u e hu he, fun v2 d2 g2 x1 x2 x3 => by rw [s14, s15, s16, s17]; exact a2 v2 d2 g2 x1 x2 x3, fun i hi => by rw [s16]; exact a3 i hi, ⟨fun i hi z b hb => ?_, ?_⟩, fun k2 hk2 => by rw [s14]; exact a5 k2 hk2, fun i hi => ?_, fun i hi z => ?_, fun _ => ⟨v, d, g, P, P, f, hv, hd, hg, Nat.le_refl _, hS, hP, hf24, by rw [s0 37 (by decide)]; exact g37, by rw [s0 38 (by decide)]; exact g38, by rw [s14]; exact e14, by rw [s16]; exact t1, by rw [s15]; exact e15, by rw [s17]; exact e17, by rw [s0 41 (by decide)]; exact g41, s18', Or.inr (Or.inr ⟨by rw [s0 36 (by decide)]; exact g36, by rw [s0 40 (by decide)]; exact g40⟩)⟩, Or.inr ab_up_eq, fun i S2 b hi z hS2 e2 hb hle => ?_⟩
          · rw [s16] at z
            have ne : ¬ i = g := fun y => by rw [y, t1] at z; exact absurd z (by decide)
            rw [s18 _ (by omega)]; exact a4.1 i hi z b hb
          · have e : (fun i => decide ((ab_up n 0 35 (nI 1)) 16 i = 1)) = (fun i => decide (m 16 i = 1)) := by funext i; rw [s16]
            rw [e]; exact a4.2
          · by_cases c : i = 4 * g + P / 8
            · rw [c, s18']; exact Or.inr ⟨f, hf24, rfl⟩
            · rw [s18 i c]; exact a6 i hi
          · rw [s16] at z
            obtain ⟨S2, y1, y2, y3, -⟩ := a7 i hi z
            refine ⟨S2, y1, by rw [s17]; exact y2, fun b hb hlt => ?_, fun z2 => ?_⟩
            · by_cases c : 4 * i + b = 4 * g + P / 8
              · rw [c, s18']; exact nI_pos (by omega)
              · rw [s18 _ c]; exact y3 b hb hlt
            · rw [ab_up_eq] at z2; exact absurd z2 (by decide)
          · rw [s16] at z
            rw [s17] at e2
            by_cases c : 4 * i + b = 4 * g + P / 8
            · have ig : i = g := by omega
              subst ig
              have eP : S2 = P := (nI_eq (by omega) (by omega)).mp (e2.symm.trans e17)
              subst eP
              exact Or.inr ⟨ab_up_eq, by rw [s0 36 (by decide)]; exact g36, v, d, hv, hd, by rw [s0 38 (by decide)]; exact g38, by rw [s14]; exact e14, by rw [s15]; exact e15, by omega⟩
            · rw [s18 _ c]
              rcases a10 i S2 b hi z hS2 e2 hb hle with y | y
              · exact Or.inl y
              · rw [h35] at y; exact absurd y.1 (by decide)
        · rw [if_neg hf24]
          refine Inv.tells ?_ (Or.inl rfl) (by omega) (by omega)
          refine h.fin T (fun q2 j hq => q q2 j (by omega)) (fun j hj => q 0 j (by omega)) ?_
          obtain ⟨a1, a2, a3, a4, a5, a6, a7, a8, a9, a10⟩ := h.2.2.2
          subst hm4
          refine ⟨a1, a2, a3, a4, a5, a6, a7, fun z => absurd (h35.symm.trans z) (by decide), a9, fun i S2 b hi z hS2 e2 hb hle => ?_⟩
          rcases a10 i S2 b hi z hS2 e2 hb hle with y | y
          · exact Or.inl y
          · rw [h35] at y; exact absurd y.1 (by decide)
      · have r0 : ¬ nI P - nI P / nI 8 * nI 8 = 0 := by rw [rm]; exact nI_ne0 (by omega) (by omega)
        rw [if_neg r0, dv, ei, hci, e18]
        exact fetch (by omega)
    · rw [if_neg (fun z => cS ((nI_eq (by omega) (by omega)).mp z)), dv, ei, hci, e18]
      exact fetch (by omega)
