/-! THE INVARIANT, XII: 22, 42 -/
theorem iP4.done1 {m : mD} {v d g P S : Nat} (h : iP4 m) (hv : v < 8) (hd : d < 4) (hg : g < 16) (e14 : m 14 (4 * (v + 4) + d) = nI g) (e15 : m 15 (4 * (v + 4) + d) = nI P) (e17 : m 17 g = nI S) (hPS : P < S) (hS : S ≤ 32) (h36 : ¬ m 0 36 = nI 3) : iP4 (ab_up (ab_up m 0 35 (nI 0)) 15 (4 * (v + 4) + d) (nI P + nI 1)) := by
  obtain ⟨a1, a2, a3, a4, a5, a6, a7, a8, a9, a10⟩ := h
  have fl : ∀ i S2 b, i < 16 → m 16 i = 1 → S2 ≤ 32 → m 17 i = nI S2 → b < 4 → S2 ≤ 8 * b → m 18 (4 * i + b) < 0 := fun i S2 b hi z hS2 e2 hb hle => by
    rcases a10 i S2 b hi z hS2 e2 hb hle with y | y
    · exact y
    · exact absurd y.2.1 h36
  refine ⟨a1, fun v2 d2 g2 x1 x2 x3 x4 => ?_, a3, a4, a5, a6, fun i hi z => ?_, fun z => absurd (show nI 0 = 1 from z) (by decide), Or.inl nI00, fun i S2 b hi z hS2 e2 hb hle => Or.inl (fl i S2 b hi z hS2 e2 hb hle)⟩
  · obtain ⟨t1, P2, S2, y1, y2, y3, y4⟩ := a2 v2 d2 g2 x1 x2 x3 x4
    refine ⟨t1, ?_⟩
    by_cases c : 4 * (v2 + 4) + d2 = 4 * (v + 4) + d
    · have x4' : m 14 (4 * (v2 + 4) + d2) = nI g2 := x4
      rw [c, e14] at x4'
      have eg : g2 = g := (nI_eq (by omega) (by omega)).mp x4'.symm
      subst eg
      refine ⟨P + 1, S, by omega, hS, ?_, e17⟩
      show ab_up (ab_up m 0 35 (nI 0)) 15 (4 * (v + 4) + d) (nI P + nI 1) 15 (4 * (v2 + 4) + d2) = _
      rw [c, ab_up_eq, nI_inc]
    · refine ⟨P2, S2, y1, y2, ?_, y4⟩
      show ab_up (ab_up m 0 35 (nI 0)) 15 (4 * (v + 4) + d) (nI P + nI 1) 15 (4 * (v2 + 4) + d2) = _
      rw [ab_up_nj c, ab_up_ne (by decide)]; exact y3
  · obtain ⟨S2, y1, y2, y3, -⟩ := a7 i hi z
    exact ⟨S2, y1, y2, y3, fun _ b hb hle => fl i S2 b hi z y1 y2 hb hle⟩
theorem iP4.done3 {m : mD} {v d g P S B : Nat} {q : Int32} (h : iP4 m) (hv : v < 8) (hd : d < 4) (hg : g < 16) (e38 : m 0 38 = nI (4 * (v + 4) + d)) (e14 : m 14 (4 * (v + 4) + d) = nI g) (t1 : m 16 g = 1) (e15 : m 15 (4 * (v + 4) + d) = nI P) (e17 : m 17 g = nI S) (hPS : P ≤ S) (hS : S ≤ 32) (hP : P < 32) (hB : B < 24) (e18 : m 18 (4 * g + P / 8) = nI B) (hq : q = nI (if P = S then S + 1 else S)) : iP4 (ab_up (ab_up (ab_up m 0 35 (nI 0)) 17 g q) 15 (4 * (v + 4) + d) (nI P + nI 1)) := by
  obtain ⟨S1, hS1⟩ : ∃ S1, S1 = (if P = S then S + 1 else S) := ⟨_, rfl⟩
  rw [← hS1] at hq
  have hS1a : S ≤ S1 ∧ P < S1 ∧ S1 ≤ 32 ∧ (P = S → S1 = S + 1) ∧ (¬ P = S → S1 = S) := by
    by_cases c : P = S
    · rw [if_pos c] at hS1; exact ⟨by omega, by omega, by omega, fun _ => hS1, fun z => absurd c z⟩
    · rw [if_neg c] at hS1; exact ⟨by omega, by omega, by omega, fun z => absurd z c, fun _ => hS1⟩
  obtain ⟨k1, k2, k3, k4, k5⟩ := hS1a
  obtain ⟨a1, a2, a3, a4, a5, a6, a7, a8, a9, a10⟩ := h
  generalize hn : ab_up (ab_up (ab_up m 0 35 (nI 0)) 17 g q) 15 (4 * (v + 4) + d) (nI P + nI 1) = n
  have g0 : ∀ a j, ¬ (a = 0 ∧ j = 35) → ¬ (a = 17 ∧ j = g) → ¬ (a = 15 ∧ j = 4 * (v + 4) + d) → n a j = m a j := fun a j x1 x2 x3 => by rw [← hn, ab_up_na x3, ab_up_na x2, ab_up_na x1]
  have s14 : ∀ j, n 14 j = m 14 j := fun j => g0 14 j (by omega) (by omega) (by omega)
  have s16 : ∀ j, n 16 j = m 16 j := fun j => g0 16 j (by omega) (by omega) (by omega)
  have s18 : ∀ j, n 18 j = m 18 j := fun j => g0 18 j (by omega) (by omega) (by omega)
  have s17 : n 17 g = nI S1 := by rw [← hn, ab_up_ne (by decide), ab_up_eq, hq]
  have s15 : n 15 (4 * (v + 4) + d) = nI (P + 1) := by rw [← hn, ab_up_eq, nI_inc]
  have s35 : n 0 35 = 0 := by rw [← hn, ab_up_ne (by decide), ab_up_ne (by decide), ab_up_eq]; exact nI00
  -- sizes of the new state
  have fl : ∀ i S2 b, i < 16 → m 16 i = 1 → S2 ≤ 32 → n 17 i = nI S2 → b < 4 → S2 ≤ 8 * b → m 18 (4 * i + b) < 0 := fun i S2 b hi z hS2 e2 hb hle => by
    by_cases c : i = g
    · subst c
      have e : S2 = S1 := (nI_eq (by omega) (by omega)).mp (e2.symm.trans s17)
      subst e
      rcases a10 i S b hi z hS e17 hb (by omega) with y | ⟨-, -, v2, d2, x1, x2, x3, x4, x5, x6⟩
      · exact y
      · exfalso
        have es : 4 * (v2 + 4) + d2 = 4 * (v + 4) + d := (nI_eq (by omega) (by omega)).mp (x3.symm.trans e38)
        rw [es, e15] at x5
        have : P = S := (nI_eq (by omega) (by omega)).mp x5
        have := k4 this
        omega
    · have e2' : m 17 i = nI S2 := (g0 17 i (by omega) (by omega) (by omega)).symm.trans e2
      rcases a10 i S2 b hi z hS2 e2' hb hle with y | ⟨-, -, v2, d2, x1, x2, x3, x4, x5, x6⟩
      · exact y
      · exfalso
        have es : 4 * (v2 + 4) + d2 = 4 * (v + 4) + d := (nI_eq (by omega) (by omega)).mp (x3.symm.trans e38)
        rw [es, e14] at x4
        exact c ((nI_eq (by omega) (by omega)).mp x4.symm)
  refine ⟨fun u e hu he => by rw [s14]; exact a1 u e hu he, fun v2 d2 g2 x1 x2 x3 x4 => ?_, fun i hi => by rw [s16]; exact a3 i hi, ⟨fun i hi z b hb => by rw [s18]; rw [s16] at z; exact a4.1 i hi z b hb, ?_⟩, fun k2' hk2 => by rw [s14]; exact a5 k2' hk2, fun i hi => by rw [s18]; exact a6 i hi, fun i hi z => ?_, fun z => ?_, Or.inl s35, fun i S2 b hi z hS2 e2 hb hle => Or.inl ?_⟩
  · rw [s14] at x4
    obtain ⟨y0, P2, S2, y1, y2, y3, y4⟩ := a2 v2 d2 g2 x1 x2 x3 x4
    refine ⟨by rw [s16]; exact y0, ?_⟩
    by_cases c : 4 * (v2 + 4) + d2 = 4 * (v + 4) + d
    · rw [c, e14] at x4
      have eg : g2 = g := (nI_eq (by omega) (by omega)).mp x4.symm
      subst eg
      exact ⟨P + 1, S1, by omega, k3, by rw [c]; exact s15, s17⟩
    · have z15 : n 15 (4 * (v2 + 4) + d2) = nI P2 := (g0 15 _ (by omega) (by omega) (by omega)).trans y3
      by_cases cg : g2 = g
      · subst cg
        have e : S2 = S := (nI_eq (by omega) (by omega)).mp (y4.symm.trans e17)
        exact ⟨P2, S1, by omega, k3, z15, s17⟩
      · exact ⟨P2, S2, y1, y2, z15, (g0 17 g2 (by omega) (by omega) (by omega)).trans y4⟩
  · have e : (fun i => decide (n 16 i = 1)) = (fun i => decide (m 16 i = 1)) := by funext i; rw [s16]
    rw [e]; exact a4.2
  · rw [s16] at z
    obtain ⟨S2, y1, y2, y3, -⟩ := a7 i hi z
    by_cases c : i = g
    · subst c
      have e : S2 = S := (nI_eq (by omega) (by omega)).mp (y2.symm.trans e17)
      subst e
      refine ⟨S1, k3, s17, fun b hb hlt => ?_, fun _ b hb hle => by rw [s18]; exact fl i S1 b hi z k3 s17 hb hle⟩
      rw [s18]
      by_cases cb : 8 * b < S2
      · exact y3 b hb cb
      · have eb : b = P / 8 := by
          by_cases cP : P = S2
          · have := k4 cP; omega
          · have := k5 cP; omega
        rw [eb, e18]; exact nI_pos (by omega)
    · have y2' : n 17 i = nI S2 := (g0 17 i (by omega) (by omega) (by omega)).trans y2
      exact ⟨S2, y1, y2', fun b hb hlt => by rw [s18]; exact y3 b hb hlt, fun _ b hb hle => by rw [s18]; exact fl i S2 b hi z y1 y2' hb hle⟩
  · rw [s35] at z; exact absurd z (by decide)
  · rw [s18]; rw [s16] at z; exact fl i S2 b hi z hS2 e2 hb hle
theorem Inv.goesOn {S0 : Nat} {m : mD} (h : Inv S0 m) (T : iTk 0 m) (h35 : m 0 35 = 1) : Inv S0 (FgoesOn m) := by
  have hdd := h.1.2.2.2
  obtain ⟨v, d, g, P, S, B, hv, hd4, hg, hPS, hS, hP, hB, e37, e38, e14, t1, e15, e17, e41, e18, st⟩ := h.2.2.2.2.2.2.2.2.2.2.1 h35
  have hcs : (nI (4 * (v + 4) + d)).toNatClampNeg = 4 * (v + 4) + d := nI_clamp (by omega)
  have hcu : (nI (v + 4)).toNatClampNeg = v + 4 := nI_clamp (by omega)
  have hcg : (nI g).toNatClampNeg = g := nI_clamp (by omega)
  rcases st with ⟨s1, s2, s3⟩ | ⟨s1, s2⟩ | ⟨s1, s2⟩
  · have f36 : (ab_up m 0 35 (nI 0)) 0 36 = nI 1 := s1
    have f38 : (ab_up m 0 35 (nI 0)) 0 38 = nI (4 * (v + 4) + d) := e38
    have f15 : (ab_up m 0 35 (nI 0)) 15 (4 * (v + 4) + d) = nI P := e15
    have f37 : (ab_up (ab_up m 0 35 (nI 0)) 15 (4 * (v + 4) + d) (nI P + nI 1)) 0 37 = nI (v + 4) := e37
    rw [FgoesOn]
    refine (if_pos f36).symm ▸ ?_
    dsimp only
    rw [f38, hcs, f15, f37, hcu]
    refine Inv.tells ?_ (Or.inl rfl) (by omega) (by omega)
    exact h.fin T (fun q j hq => by rw [ab_up_ne (by omega), ab_up_ne (by omega)]) (fun j hj => by rw [ab_up_ne (by decide), ab_up_nj (by omega)]) (h.2.2.2.done1 hv hd4 hg e14 e15 e17 s3 hS (by rw [s1]; decide))
  · have f36 : ¬ (ab_up m 0 35 (nI 0)) 0 36 = nI 1 := by rw [ab_up_nj (by decide), s1]; decide
    have f36' : (ab_up m 0 35 (nI 0)) 0 36 = nI 2 := by rw [ab_up_nj (by decide), s1]
    have hn : ∀ q j, ¬ (q = 0 ∧ (j = 35 ∨ j = 36 ∨ j = 40)) → ¬ q = 22 → mG2 (fil (ab_up m 0 35 (nI 0)) 22 0 8 (gF (nI (P % 8)) ((ab_up m 0 35 (nI 0)) 0 39) (fun i => (ab_up m 0 35 (nI 0)) 6 (5 + i)))) q j = m q j := fun q j x1 x2 => by rw [mG2, ab_up_na (by omega), ab_up_na (by omega), fil_q x2, ab_up_na (by omega)]
    have g40 : mG2 (fil (ab_up m 0 35 (nI 0)) 22 0 8 (gF (nI (P % 8)) ((ab_up m 0 35 (nI 0)) 0 39) (fun i => (ab_up m 0 35 (nI 0)) 6 (5 + i)))) 0 40 = nI 21 := by rw [mG2, ab_up_eq]
    have g36 : mG2 (fil (ab_up m 0 35 (nI 0)) 22 0 8 (gF (nI (P % 8)) ((ab_up m 0 35 (nI 0)) 0 39) (fun i => (ab_up m 0 35 (nI 0)) 6 (5 + i)))) 0 36 = nI 3 := by rw [mG2, ab_up_nj (by decide), ab_up_eq]
    have D : DasksDriver (mG2 (fil (ab_up m 0 35 (nI 0)) 22 0 8 (gF (nI (P % 8)) ((ab_up m 0 35 (nI 0)) 0 39) (fun i => (ab_up m 0 35 (nI 0)) 6 (5 + i))))) := asks_D (h.man.fr (fun i _ => hn 2 i (by omega) (by omega)) (fun i _ => hn 5 i (by omega) (by omega))) (by rw [hn 0 23 (by omega) (by omega)]; exact hdd)
    have o1 := (FgoesOn_79_l (m := ab_up m 0 35 (nI 0)) (P := P) (by omega) D 9 0 (by omega) (by omega)).1
    rw [fil_0] at o1
    have em : FgoesOn m = FasksDriver (mG2 (fil (ab_up m 0 35 (nI 0)) 22 0 8 (gF (nI (P % 8)) ((ab_up m 0 35 (nI 0)) 0 39) (fun i => (ab_up m 0 35 (nI 0)) 6 (5 + i))))) := by
      rw [FgoesOn]
      refine (if_neg f36).trans ((if_pos f36').trans ?_)
      rw [e38, hcs, e15]
      exact o1
    rw [em]
    generalize mG2 (fil (ab_up m 0 35 (nI 0)) 22 0 8 (gF (nI (P % 8)) ((ab_up m 0 35 (nI 0)) 0 39) (fun i => (ab_up m 0 35 (nI 0)) 6 (5 + i)))) = n at *
    have s0 : ∀ j, ¬ j = 35 → (ab_up n 0 35 (nI 1)) 0 j = n 0 j := fun j hj => ab_up_nj hj
    have sq : ∀ q j, 14 ≤ q → q ≤ 18 → (ab_up n 0 35 (nI 1)) q j = m q j := fun q j x1 x2 => by rw [ab_up_ne (by omega)]; exact hn q j (by omega) (by omega)
    refine h.ask2 (B := B) T (fun q j hq => hn q j (by omega) (by omega)) (fun j hj => hn 0 j (by omega) (by omega)) (Or.inr g40) hB (by rw [hn 0 41 (by omega) (by omega)]; exact e41) ?_
    obtain ⟨a1, a2, a3, a4, a5, a6, a7, a8, a9, a10⟩ := h.2.2.2
    refine ⟨fun u e hu he => by rw [sq 14 _ (by omega) (by omega)]; exact a1 u e hu he, fun v2 d2 g2 x1 x2 x3 => by rw [sq 14 _ (by omega) (by omega), sq 15 _ (by omega) (by omega), sq 16 _ (by omega) (by omega), sq 17 _ (by omega) (by omega)]; exact a2 v2 d2 g2 x1 x2 x3, fun i hi => by rw [sq 16 _ (by omega) (by omega)]; exact a3 i hi, ⟨fun i hi z b hb => by rw [sq 18 _ (by omega) (by omega)]; rw [sq 16 _ (by omega) (by omega)] at z; exact a4.1 i hi z b hb, ?_⟩, fun k2 hk2 => by rw [sq 14 _ (by omega) (by omega)]; exact a5 k2 hk2, fun i hi => by rw [sq 18 _ (by omega) (by omega)]; exact a6 i hi, fun i hi z => ?_, fun _ => ⟨v, d, g, P, S, B, hv, hd4, hg, hPS, hS, hP, hB, by rw [s0 37 (by decide), hn 0 37 (by omega) (by omega)]; exact e37, by rw [s0 38 (by decide), hn 0 38 (by omega) (by omega)]; exact e38, by rw [sq 14 _ (by omega) (by omega)]; exact e14, by rw [sq 16 _ (by omega) (by omega)]; exact t1, by rw [sq 15 _ (by omega) (by omega)]; exact e15, by rw [sq 17 _ (by omega) (by omega)]; exact e17, by rw [s0 41 (by decide), hn 0 41 (by omega) (by omega)]; exact e41, by rw [sq 18 _ (by omega) (by omega)]; exact e18, Or.inr (Or.inr ⟨by rw [s0 36 (by decide)]; exact g36, by rw [s0 40 (by decide)]; exact g40⟩)⟩, Or.inr ab_up_eq, fun i S2 b hi z hS2 e2 hb hle => Or.inl ?_⟩
    · have e : (fun i => decide ((ab_up n 0 35 (nI 1)) 16 i = 1)) = (fun i => decide (m 16 i = 1)) := by funext i; rw [sq 16 _ (by omega) (by omega)]
      rw [e]; exact a4.2
    · rw [sq 16 _ (by omega) (by omega)] at z
      obtain ⟨S2, y1, y2, y3, -⟩ := a7 i hi z
      refine ⟨S2, y1, by rw [sq 17 _ (by omega) (by omega)]; exact y2, fun b hb hlt => by rw [sq 18 _ (by omega) (by omega)]; exact y3 b hb hlt, fun z2 => ?_⟩
      rw [ab_up_eq] at z2; exact absurd z2 (by decide)
    · rw [sq 16 _ (by omega) (by omega)] at z
      rw [sq 17 _ (by omega) (by omega)] at e2
      rw [sq 18 _ (by omega) (by omega)]
      rcases a10 i S2 b hi z hS2 e2 hb hle with y | y
      · exact y
      · rw [s1] at y; exact absurd y.2.1 (by decide)
  · have f36 : ¬ (ab_up m 0 35 (nI 0)) 0 36 = nI 1 := by rw [ab_up_nj (by decide), s1]; decide
    have f36' : ¬ (ab_up m 0 35 (nI 0)) 0 36 = nI 2 := by rw [ab_up_nj (by decide), s1]; decide
    have f17 : (ab_up m 0 35 (nI 0)) 17 g = nI S := e17
    have k38 : ∀ r : Int32, (ab_up (ab_up m 0 35 (nI 0)) 17 g r) 0 38 = nI (4 * (v + 4) + d) := fun _ => e38
    have k15 : ∀ r : Int32, (ab_up (ab_up m 0 35 (nI 0)) 17 g r) 15 (4 * (v + 4) + d) = nI P := fun _ => e15
    have k37 : ∀ r : Int32, (ab_up (ab_up (ab_up m 0 35 (nI 0)) 17 g r) 15 (4 * (v + 4) + d) (nI P + nI 1)) 0 37 = nI (v + 4) := fun _ => e37
    have em : FgoesOn m = Ftells 2 (v + 4) (nI 0) (ab_up (ab_up (ab_up m 0 35 (nI 0)) 17 g (nI (if P = S then S + 1 else S))) 15 (4 * (v + 4) + d) (nI P + nI 1)) := by
      rw [FgoesOn]
      refine (if_neg f36).trans ((if_neg f36').trans ?_)
      dsimp only
      rw [e38, hcs, e14, hcg, f17, k38, hcs, k38, hcs, k15, k15, k37, k37, hcu, e15, nI_inc S, nI_inc0]
      by_cases c : P = S
      · rw [if_pos (by rw [c]), if_pos c]
      · rw [if_neg (fun z => c ((nI_eq (by omega) (by omega)).mp z)), if_neg c]
    rw [em]
    refine Inv.tells ?_ (Or.inl rfl) (by omega) (by omega)
    exact h.fin T (fun q j hq => by rw [ab_up_ne (by omega), ab_up_ne (by omega), ab_up_ne (by omega)]) (fun j hj => by rw [ab_up_ne (by decide), ab_up_ne (by decide), ab_up_nj (by omega)]) (h.2.2.2.done3 hv hd4 hg e38 e14 t1 e15 e17 hPS hS hP hB e18 rfl)
