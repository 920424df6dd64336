/-! THE INVARIANT, V: all of it; the KEEPER's turn, a crash, a user's turn -/
def iLf (S : Nat) (m : mD) : Prop := ∃ T F, 1 ≤ T ∧ T ≤ F ∧ F ≤ S + 1 ∧ m 0 34 = nI T ∧ m 0 25 = nI F
def iJob (m : mD) : Prop := m 0 27 = 0 ∨ ((m 0 27 = nI 20 ∨ m 0 27 = nI 21) ∧ ∃ B, B < 24 ∧ m 0 28 = nI B)
def iP1 (S : Nat) (m : mD) : Prop := (m 0 33 = 0 ∨ m 0 33 = 1) ∧ iDead m ∧ iJob m ∧ iLf S m
def iP3 (m : mD) : Prop := iSta m ∧ iPar m ∧ iHel m ∧ (∀ u, u < 12 → 4 ≤ u → m 5 u = -1) ∧ (m 0 43 = 0 ∨ m 0 43 = 1)
/-- blocks behind a file's end: none, but for the one that is on its way -/
def iFly (m : mD) : Prop := ∀ i S b, i < 16 → m 16 i = 1 → S ≤ 32 → m 17 i = nI S → b < 4 → S ≤ 8 * b → m 18 (4 * i + b) < 0 ∨ (m 0 35 = 1 ∧ m 0 36 = nI 3 ∧ ∃ v d, v < 8 ∧ d < 4 ∧ m 0 38 = nI (4 * (v + 4) + d) ∧ m 14 (4 * (v + 4) + d) = nI i ∧ m 15 (4 * (v + 4) + d) = nI S ∧ b = S / 8)
def iP4 (m : mD) : Prop := iOpe m ∧ iOpT m ∧ iThe m ∧ iNoB m ∧ (∀ k, k < 16 → m 14 k = -1) ∧ rng18 m ∧ iSiz m ∧ iWai m ∧ (m 0 35 = 0 ∨ m 0 35 = 1) ∧ iFly m
def Inv (S : Nat) (m : mD) : Prop := iMM m ∧ iP1 S m ∧ iP3 m ∧ iP4 m
theorem iP1.fr {S S' : Nat} {m m' : mD} (h : iP1 S m) (hS : S ≤ S') (h2 : m 0 23 = 0 → m' 2 1 = m 2 1) (h0 : ∀ j, j = 23 ∨ j = 24 ∨ j = 25 ∨ j = 26 ∨ j = 27 ∨ j = 28 ∨ j = 32 ∨ j = 33 ∨ j = 34 → m' 0 j = m 0 j) : iP1 S' m' := by
  obtain ⟨a1, a2, a3, T, F, b1, b2, b3, b4, b5⟩ := h
  refine ⟨by rw [h0 33 (by omega)]; exact a1, fun z => ?_, ?_, T, F, b1, b2, by omega, by rw [h0 34 (by omega)]; exact b4, by rw [h0 25 (by omega)]; exact b5⟩
  · rw [h0 23 (by omega)] at z
    rw [h2 z, h0 24 (by omega), h0 26 (by omega), h0 27 (by omega), h0 32 (by omega)]
    exact a2 z
  · rw [iJob, h0 27 (by omega), h0 28 (by omega)]; exact a3
theorem iP3.fr {m m' : mD} (h : iP3 m) (h7 : ∀ j, m' 7 j = m 7 j) (h11 : ∀ j, m' 11 j = m 11 j) (h5 : ∀ u, 4 ≤ u → m' 5 u = m 5 u) (h0 : ∀ j, 43 ≤ j → j ≤ 46 → m' 0 j = m 0 j) : iP3 m' := by
  obtain ⟨a1, a2, a3, a4, a5⟩ := h
  refine ⟨fun u hu h4 => by rw [h7]; exact a1 u hu h4, fun c hc h4 => by rw [h7, h11]; exact a2 c hc h4, fun z => ?_, fun u hu h4 => by rw [h5 u h4]; exact a4 u hu h4, by rw [h0 43 (by omega) (by omega)]; exact a5⟩
  rw [h0 43 (by omega) (by omega)] at z
  rw [h0 44 (by omega) (by omega), h0 45 (by omega) (by omega), h0 46 (by omega) (by omega)]
  simp only [h7, h11]
  exact a3 z
theorem iP4.fr {m m' : mD} (h : iP4 m) (h1 : ∀ q j, 14 ≤ q → q ≤ 18 → m' q j = m q j) (h0 : ∀ j, 35 ≤ j → j ≤ 41 → m' 0 j = m 0 j) : iP4 m' := by
  have e14 : ∀ j, m' 14 j = m 14 j := fun j => h1 14 j (by omega) (by omega)
  have e15 : ∀ j, m' 15 j = m 15 j := fun j => h1 15 j (by omega) (by omega)
  have e16 : ∀ j, m' 16 j = m 16 j := fun j => h1 16 j (by omega) (by omega)
  have e17 : ∀ j, m' 17 j = m 17 j := fun j => h1 17 j (by omega) (by omega)
  have e18 : ∀ j, m' 18 j = m 18 j := fun j => h1 18 j (by omega) (by omega)
  rw [iP4, iOpe, iOpT, iThe, iNoB, rng18, iSiz, iWai, iFly, h0 35 (by omega) (by omega), h0 36 (by omega) (by omega), h0 37 (by omega) (by omega), h0 38 (by omega) (by omega), h0 40 (by omega) (by omega), h0 41 (by omega) (by omega)]
  simp only [e14, e15, e16, e17, e18]
  exact h
theorem iP1.S {S S' : Nat} {m : mD} (h : iP1 S m) (hS : S ≤ S') : iP1 S' m := h.fr hS (fun _ => rfl) (fun _ _ => rfl)
theorem iTk.life {L : Nat} {m m' : mD} (h : iTk L m) (hL : ¬ (L = 1 ∨ L = 2 ∨ L = 5)) (h1 : ∀ i, m' 1 i = m 1 i) (h2 : ∀ i, i = 1 ∨ i = 2 → m' 2 i = m 2 i) (h4 : ∀ i, m' 4 i = m 4 i) (h5 : ∀ i, i = 0 ∨ i = 1 ∨ i = 2 → m' 5 i = m 5 i) (h0 : ∀ j, j = 27 ∨ j = 34 ∨ j = 35 ∨ j = 40 → m' 0 j = m 0 j) (h25 : m 0 25 ≤ m' 0 25) : iTk L m' := by
  obtain ⟨a1, a2, a3, a4, a5, a6, a7, a8, a9, a10, a11⟩ := h
  rw [iTk, h2 1 (by omega), h2 2 (by omega), h5 0 (by omega), h5 1 (by omega), h5 2 (by omega), h0 27 (by omega), h0 34 (by omega), h0 35 (by omega), h0 40 (by omega), kq_fr h4, kq_fr h4]
  simp only [mq_fr h1]
  exact ⟨a1, a2, a3, a4, a5, a6, a7, fun z => absurd z hL, a9, fun M k hM e hk z => ⟨(a10 M k hM e hk z).1, Int32.le_trans (a10 M k hM e hk z).2 h25⟩, fun e ek => ⟨(a11 e ek).1, Int32.le_trans (a11 e ek).2.1 h25, (a11 e ek).2.2⟩⟩
/-- sending to a dead driver leaves its inbox -/
theorem Fsends_dead {m : mD} {f t : Nat} (hn : iMan m) (hf : f < 12) (ht : t < 12) (hd : m 0 23 = 0) : (Fsends f t m) 2 1 = m 2 1 := by
  obtain ⟨M, hM, hm⟩ := hn.1 t ht
  obtain ⟨-, c⟩ := Fsends_cases (f := f) (t := t) hf ht hm hM (Or.inl hd)
  rcases c with ⟨-, c⟩ | ⟨-, -, c⟩ | ⟨-, -, -, -, c⟩ | ⟨-, cl, -, hM2, c⟩
  · rw [c, mForb_o (by omega)]
  · rw [c]
  · rw [c, mKeep_o (by decide) (by omega)]
  · have n1 : ¬ t = 1 := fun z => cl (by subst z; rw [Flives, if_pos rfl, hd])
    rw [c, mPut_o (by omega) (by decide) (by omega), ab_up_ne (by decide)]
theorem again_dead {m : mD} {p : Nat} (h : iMM m) (hp : p < 12) (hd : m 0 23 = 0) : (FsendsAgain p m).2 2 1 = m 2 1 := by
  obtain ⟨a1, a2, -, a4⟩ := h
  rcases a1.2 p hp with z | ⟨t, ht, z⟩
  · rw [FsendsAgain_no z]
  · rw [FsendsAgain_yes hp ht z a1 a4]
    show Fsends p t (mAg p m) 2 1 = m 2 1
    rw [Fsends_dead a1.ag hp ht (by rw [mAg_o (by decide) (by omega)]; exact hd), mAg_o (by decide) (by omega)]
/-- what p sends again keeps the invariant -/
theorem Inv.again {S p : Nat} {m : mD} (h : Inv S m) (hp : p < 4) : Inv S (FsendsAgain p m).2 := by
  obtain ⟨h1, h2, h3, h4⟩ := h
  obtain ⟨a1, a2, a3, -⟩ := h1.again (p := p) (by omega)
  exact ⟨a1, h2.fr (Nat.le_refl _) (fun z => again_dead h1 (by omega) z) (fun j hj => a2 0 j (by omega)), h3.fr (fun j => a2 7 j (by omega)) (fun j => a2 11 j (by omega)) (fun u hu => a3 u (by omega)) (fun j hj hj2 => a2 0 j (by omega)), h4.fr (fun q j hq hq2 => a2 q j (by omega)) (fun j hj hj2 => a2 0 j (by omega))⟩
theorem Inv.fr {S S' : Nat} {m m' : mD} (h : Inv S m) (hS : S ≤ S') (h1 : ∀ q j, (1 ≤ q ∧ q ≤ 2) ∨ (4 ≤ q ∧ q ≤ 5) ∨ q = 7 ∨ q = 11 ∨ (14 ≤ q ∧ q ≤ 18) → m' q j = m q j) (h0 : ∀ j, (23 ≤ j ∧ j ≤ 28) ∨ (32 ≤ j ∧ j ≤ 46) → m' 0 j = m 0 j) : Inv S' m' := by
  obtain ⟨a1, a2, a3, a4⟩ := h
  exact ⟨a1.fr (fun i => h1 1 i (by omega)) (fun i _ => h1 2 i (by omega)) (fun i => h1 4 i (by omega)) (fun i _ => h1 5 i (by omega)) (fun j hj => h0 j (by omega)), a2.fr hS (fun _ => h1 2 1 (by omega)) (fun j hj => h0 j (by omega)), a3.fr (fun j => h1 7 j (by omega)) (fun j => h1 11 j (by omega)) (fun u _ => h1 5 u (by omega)) (fun j hj hj2 => h0 j (by omega)), a4.fr (fun q j hq hq2 => h1 q j (by omega)) (fun j hj hj2 => h0 j (by omega))⟩
/-- the driver crashes -/
theorem Inv.crash {S : Nat} {m : mD} (h : Inv S m) : Inv S (FcrashesNow m) := by
  obtain ⟨⟨a1, a2, ⟨L, a3⟩, a4⟩, ⟨p1, p2, p3, p4⟩, h3, h4⟩ := h
  have e : FcrashesNow m = ab_up (ab_up (ab_up (ab_up (ab_up (ab_up (ab_up (ab_up m 0 23 (nI 0)) 0 24 (nI 0)) 0 27 (nI 0)) 2 1 (nI 0)) 0 26 (nI 0)) 5 1 (-1)) 0 32 (nI 0)) 0 30 (m 0 30 + nI 1) := rfl
  have o : ∀ q j, ¬ (q = 0 ∧ (j = 23 ∨ j = 24 ∨ j = 26 ∨ j = 27 ∨ j = 30 ∨ j = 32)) → ¬ (q = 2 ∧ j = 1) → ¬ (q = 5 ∧ j = 1) → FcrashesNow m q j = m q j := fun q j h1 h2 h3 => by
    rw [e, ab_up_na (by omega), ab_up_na (by omega), ab_up_na (by omega), ab_up_na (by omega), ab_up_na (by omega), ab_up_na (by omega), ab_up_na (by omega), ab_up_na (by omega)]
  have e23 : FcrashesNow m 0 23 = 0 := rfl
  have e24 : FcrashesNow m 0 24 = 0 := rfl
  have e26 : FcrashesNow m 0 26 = 0 := rfl
  have e27 : FcrashesNow m 0 27 = 0 := rfl
  have e32 : FcrashesNow m 0 32 = 0 := rfl
  have e21 : FcrashesNow m 2 1 = nI 0 := rfl
  have e51 : FcrashesNow m 5 1 = -1 := rfl
  have h2 : ∀ i, i < 12 → FcrashesNow m 2 i = m 2 i ∨ FcrashesNow m 2 i = nI 0 := fun i _ => by
    by_cases c : i = 1
    · subst c; exact Or.inr e21
    · exact Or.inl (o 2 i (by omega) (by omega) (by omega))
  have h5 : ∀ i, i < 12 → FcrashesNow m 5 i = m 5 i ∨ FcrashesNow m 5 i = -1 := fun i _ => by
    by_cases c : i = 1
    · subst c; exact Or.inr e51
    · exact Or.inl (o 5 i (by omega) (by omega) (by omega))
  have o1 : ∀ i, FcrashesNow m 1 i = m 1 i := fun i => o 1 i (by omega) (by omega) (by omega)
  have o4 : ∀ i, FcrashesNow m 4 i = m 4 i := fun i => o 4 i (by omega) (by omega) (by omega)
  have hT : ∃ L', iTk L' (FcrashesNow m) := by
    -- first all but who lives
    have T1 : iTk L (ab_up (FcrashesNow m) 0 23 (m 0 23)) := a3.clr (fun i => by rw [ab_up_ne (by decide)]; exact o1 i) (fun i hi => by rw [ab_up_ne (by decide)]; exact h2 i (by omega)) (fun i => by rw [ab_up_ne (by decide)]; exact o4 i) (fun i hi => by rw [ab_up_ne (by decide)]; exact h5 i (by omega)) (Or.inr (by rw [ab_up_nj (by decide)]; exact e27)) (fun j hj => by
      by_cases c : j = 23
      · subst c; rw [ab_up_eq]
      · rw [ab_up_nj c]; exact o 0 j (by omega) (by omega) (by omega))
    have T2 : ∃ L', iTk L' (ab_up (FcrashesNow m) 0 23 (m 0 23)) ∧ ¬ (L' = 1 ∨ L' = 2 ∨ L' = 5) := by
      by_cases c : L = 1 ∨ L = 2 ∨ L = 5
      · refine ⟨0, T1.zero (fun _ M k hM em hk => ?_) (fun _ => by rw [ab_up_nj (by decide)]; exact e27) (fun z => by omega) (fun z => by omega) (fun _ => ?_), by omega⟩
        · rw [ab_up_ne (by decide), e21] at em
          have : 0 = M := (nI_eq (by decide) (by omega)).mp em
          omega
        · rw [ab_up_ne (by decide), e51]
          exact fun z => nI_ne_m1 2 (by decide) z.symm
      · exact ⟨L, T1, c⟩
    obtain ⟨L', T3, hL⟩ := T2
    refine ⟨L', T3.life hL (fun i => (ab_up_ne (by decide)).symm) (fun i _ => (ab_up_ne (by decide)).symm) (fun i => (ab_up_ne (by decide)).symm) (fun i _ => (ab_up_ne (by decide)).symm) (fun j hj => (ab_up_nj (by omega)).symm) ?_⟩
    rw [ab_up_nj (by decide)]
    exact Int32.le_refl _
  refine ⟨⟨a1.clr h2 h5, a2.clr o1 h2 o4 h5, hT, Or.inl e23⟩, ⟨by rw [o 0 33 (by omega) (by omega) (by omega)]; exact p1, fun _ => ⟨e21, e24, e26, e27, Or.inl e32⟩, Or.inl e27, ?_⟩, h3.fr (fun j => o 7 j (by omega) (by omega) (by omega)) (fun j => o 11 j (by omega) (by omega) (by omega)) (fun u hu => o 5 u (by omega) (by omega) (by omega)) (fun j hj hj2 => o 0 j (by omega) (by omega) (by omega)), h4.fr (fun q j hq hq2 => o q j (by omega) (by omega) (by omega)) (fun j hj hj2 => o 0 j (by omega) (by omega) (by omega))⟩
  obtain ⟨T, F, b1, b2, b3, b4, b5⟩ := p4
  exact ⟨T, F, b1, b2, b3, by rw [o 0 34 (by omega) (by omega) (by omega)]; exact b4, by rw [o 0 25 (by omega) (by omega) (by omega)]; exact b5⟩
