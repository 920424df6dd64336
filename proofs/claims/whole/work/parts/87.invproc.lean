/-! THE INVARIANT, VIII: PROCESSES -/
theorem snd_21 {m : mD} {f t : Nat} {k a b : Int32} (h : iMM m) (hf : f < 12) (ht : t < 12) (ht1 : ¬ t = 1) : (Fsends f t (Fdrafts k a b m)) 2 1 = m 2 1 := by
  rw [Fdrafts_eq]
  rcases (Fsends_fr (f := f) (t := t) (h.1.dr (k := k) (a := a) (b := b)) hf ht (by rw [mDr_q (by decide)]; exact h.2.2.2)).2.2.2 1 (by decide) with z | z
  · rw [z, mDr_q (by decide)]
  · exact absurd z.symm ht1
theorem Inv.snd {S f t : Nat} {m : mD} {k a b : Int32} (h : Inv S m) (hf : f < 4) (ht : t < 12) (ht1 : ¬ t = 1) (hq : okS f t (nI f, k, a, b)) (hk : ¬ k = nI 20 ∧ ¬ k = nI 21 ∧ ¬ k = nI 22 ∧ ¬ k = nI 42) (h12 : ¬ (f = 1 ∧ t = 2)) : Inv S (Fsends f t (Fdrafts k a b m)) := by
  obtain ⟨h1, h2, h3, h4⟩ := h
  obtain ⟨s1, s2, s3⟩ := h1.snd (f := f) (t := t) (k := k) (a := a) (b := b) (by omega) ht hq hk (by omega) h12
  exact ⟨s1, h2.fr (Nat.le_refl _) (fun _ => snd_21 h1 (by omega) ht ht1) (fun j hj => s2 0 j (by omega)), h3.fr (fun j => s2 7 j (by omega)) (fun j => s2 11 j (by omega)) (fun u hu => s3 u (by omega)) (fun j _ _ => s2 0 j (by omega)), h4.fr (fun q j _ _ => s2 q j (by omega)) (fun j _ _ => s2 0 j (by omega))⟩
theorem Inv.tells {S f u : Nat} {m : mD} {v : Int32} (h : Inv S m) (hf : f = 2 ∨ f = 3) (hu : u < 12) (hu4 : 4 ≤ u) : Inv S (Ftells f u v m) := by
  have e : Ftells f u v m = Fsends f u (Fdrafts (nI 50) v (nI 0) m) := rfl
  rw [e]
  rcases hf with z | z
  · subst z
    exact h.snd (by decide) hu (by omega) (Or.inr (Or.inr (Or.inr (Or.inl ⟨rfl, Or.inr (Or.inr ⟨hu4, rfl⟩)⟩)))) (by decide) (by omega)
  · subst z
    exact h.snd (by decide) hu (by omega) (Or.inr (Or.inr (Or.inr (Or.inr (Or.inl ⟨rfl, Or.inr ⟨hu4, rfl⟩⟩))))) (by decide) (by omega)
/-- what PROCESSES keeps changes -/
theorem Inv.p3 {S : Nat} {m m' : mD} (h : Inv S m) (h1 : ∀ q j, q = 1 ∨ q = 2 ∨ q = 4 ∨ q = 5 ∨ (14 ≤ q ∧ q ≤ 18) → m' q j = m q j) (h0 : ∀ j, (23 ≤ j ∧ j ≤ 28) ∨ (32 ≤ j ∧ j ≤ 41) → m' 0 j = m 0 j) (h3 : iP3 m') : Inv S m' := by
  obtain ⟨a1, a2, -, a4⟩ := h
  exact ⟨a1.fr (fun i => h1 1 i (by omega)) (fun i _ => h1 2 i (by omega)) (fun i => h1 4 i (by omega)) (fun i _ => h1 5 i (by omega)) (fun j hj => h0 j (by omega)), a2.fr (Nat.le_refl _) (fun _ => h1 2 1 (by omega)) (fun j hj => h0 j (by omega)), h3, a4.fr (fun q j hq hq2 => h1 q j (by omega)) (fun j _ _ => h0 j (by omega))⟩
theorem Fforks_r {m : mD} {u : Nat} : ∀ (n k : Nat), 5 ≤ k → (Fforks_2 n u k m = m ∨ Fforks_2 n u k m = Ftells 3 u (-9) m ∨ ∃ c, 5 ≤ c ∧ c < 12 ∧ m 7 c = 0 ∧ Fforks_2 n u k m = Fsends 3 2 (Fdrafts (nI 30) (nI u) (nI c) (Fholds (nI 8) (nI u) (nI c) m))) ∨ 12 < k := by
  intro n
  induction n with
  | zero => intro k _; exact Or.inl (Or.inl rfl)
  | succ n ih =>
    intro k hk
    rw [Fforks_2]
    by_cases e : 12 ≤ k
    · by_cases e12 : k = 12
      · rw [if_pos e, if_pos e12]; exact Or.inl (Or.inr (Or.inl rfl))
      · exact Or.inr (by omega)
    · have e12 : ¬ k = 12 := by omega
      rw [if_neg e, if_neg e12]
      by_cases s : m 7 k = 0
      · rw [if_pos s]; exact Or.inl (Or.inr (Or.inr ⟨k, hk, by omega, s, rfl⟩))
      · rw [if_neg s]
        rcases ih (k + 1) (by omega) with z | z
        · exact Or.inl z
        · omega
theorem Inv.forks {S u : Nat} {m : mD} (h : Inv S m) (hu : u < 12) (hu4 : 4 ≤ u) : Inv S (Fforks u m) := by
  have e : Fforks u m = Fforks_2 9 u 5 m := rfl
  rw [e]
  rcases Fforks_r (m := m) (u := u) 9 5 (by decide) with (z | z | ⟨c, c5, c12, s, z⟩) | z
  · rw [z]; exact h
  · rw [z]; exact h.tells (Or.inr rfl) hu hu4
  · rw [z]
    have H : Inv S (Fholds (nI 8) (nI u) (nI c) m) := by
      refine h.p3 (fun q j hq => Fholds_o (by omega)) (fun j hj => Fholds_o (by omega)) ?_
      obtain ⟨a1, a2, a3, a4, a5⟩ := h.2.2.1
      refine ⟨fun v hv h4 => by rw [Fholds_o (by omega)]; exact a1 v hv h4, fun v hv h4 => by rw [Fholds_o (by omega), Fholds_o (by omega)]; exact a2 v hv h4, fun _ => ⟨c, u, c12, by omega, hu, hu4, rfl, rfl, Or.inl ⟨rfl, ?_⟩⟩, fun v hv h4 => by rw [Fholds_o (by omega)]; exact a4 v hv h4, Or.inr rfl⟩
      rw [Fholds_o (by omega)]; exact s
    exact H.snd (f := 3) (t := 2) (by decide) (by decide) (by decide) (Or.inr (Or.inr (Or.inr (Or.inr (Or.inl ⟨rfl, Or.inl ⟨rfl, Or.inl ⟨rfl, u - 4, c - 4, by omega, by omega, by rw [show u - 4 + 4 = u by omega], by rw [show c - 4 + 4 = c by omega]⟩⟩⟩))))) (by decide) (by decide)
  · omega
/-- the state that freed leaves -/
theorem iP3.free {m : mD} {c : Nat} (h : iP3 m) (h43 : ¬ m 0 43 = 1) : iP3 (ab_up (ab_up m 7 c (nI 0)) 11 c (-1)) := by
  obtain ⟨a1, a2, a3, a4, a5⟩ := h
  refine ⟨fun v hv h4 => ?_, fun v hv h4 => ?_, fun z => absurd z h43, a4, a5⟩
  · rw [ab_up_ne (by decide)]
    by_cases e : v = c
    · subst e; rw [ab_up_eq]; exact Or.inl nI00
    · rw [ab_up_nj e]; exact a1 v hv h4
  · by_cases e : v = c
    · subst e; exact Or.inl ab_up_eq
    · have e1 : ab_up (ab_up m 7 c (nI 0)) 11 c (-1) 11 v = m 11 v := by rw [ab_up_nj e, ab_up_ne (by decide)]
      have e2 : ab_up (ab_up m 7 c (nI 0)) 11 c (-1) 7 v = m 7 v := by rw [ab_up_ne (by decide), ab_up_nj e]
      rw [e1, e2]; exact a2 v hv h4
theorem Inv.free {S c : Nat} {m : mD} (h : Inv S m) (h43 : ¬ m 0 43 = 1) : Inv S (Ffreed c m).2 := by
  rw [Ffreed_eq]
  exact h.p3 (fun q j hq => by show ab_up (ab_up m 7 c (nI 0)) 11 c (-1) q j = _; rw [ab_up_ne (by omega), ab_up_ne (by omega)]) (fun j _ => rfl) (h.2.2.1.free h43)
theorem Inv.wts {S u : Nat} {m : mD} {v : Int32} (h : Inv S m) : Inv S (ab_up m 13 u v) := h.p3 (fun q j hq => ab_up_ne (by omega)) (fun j _ => ab_up_ne (by decide)) (h.2.2.1.fr (fun _ => ab_up_ne (by decide)) (fun _ => ab_up_ne (by decide)) (fun _ _ => ab_up_ne (by decide)) (fun _ _ _ => ab_up_ne (by decide)))
theorem FwaitsFor_r {m : mD} {u : Nat} : ∀ (n j : Nat) (a2 a3 : Int32), j ≤ 11 → (a2 < 0 ∨ ∃ c, c < 12 ∧ a2 = nI c) → (FwaitsFor_8 n u a2 a3 (nI j) m = m ∨ FwaitsFor_8 n u a2 a3 (nI j) m = Ftells 3 u (-10) m ∨ FwaitsFor_8 n u a2 a3 (nI j) m = ab_up m 13 u (nI 1) ∨ ∃ c, c < 12 ∧ FwaitsFor_8 n u a2 a3 (nI j) m = Ftells 3 u (Ffreed c m).1 (Ffreed c m).2) := by
  intro n
  induction n with
  | zero => intros; exact Or.inl rfl
  | succ n ih =>
    intro j a2 a3 hj h2
    rw [FwaitsFor_8]
    by_cases c4 : nI j < nI 4
    · rw [if_pos c4]
      by_cases c2 : a2 < 0
      · rw [if_pos c2]
        by_cases c3 : a3 = 0
        · rw [if_pos c3]; exact Or.inr (Or.inl rfl)
        · rw [if_neg c3]; exact Or.inr (Or.inr (Or.inl rfl))
      · obtain ⟨c, hc, rfl⟩ := h2.resolve_left c2
        rw [if_neg c2, nI_clamp (show c < 2 ^ 31 by omega)]
        exact Or.inr (Or.inr (Or.inr ⟨c, hc, rfl⟩))
    · have j4 : 4 ≤ j := by
        apply Classical.byContradiction
        intro z
        exact c4 (nI_lt (by omega) (by decide))
      have ej : nI j + -1 = nI (j - 1) := by
        have := pk_m1 (j - 1)
        rw [show j - 1 + 1 = j by omega] at this
        exact this
      have I := fun (b2 b3 : Int32) (hb : b2 < 0 ∨ ∃ c, c < 12 ∧ b2 = nI c) => ih (j - 1) b2 b3 (by omega) hb
      have hjj : nI j < 0 ∨ ∃ c, c < 12 ∧ nI j = nI c := Or.inr ⟨j, by omega, rfl⟩
      rw [if_neg c4, ej]
      by_cases c1 : m 11 (nI j).toNatClampNeg = nI u
      · rw [if_pos c1]
        by_cases s0 : m 7 (nI j).toNatClampNeg = 0
        · rw [if_pos s0]
          by_cases c3 : a3 = 0
          · rw [if_pos c3]; exact I _ _ h2
          · rw [if_neg c3]; exact I _ _ h2
        · rw [if_neg s0]
          by_cases s2 : m 7 (nI j).toNatClampNeg = nI 2
          · rw [if_pos s2, ite_self]; exact I _ _ hjj
          · rw [if_neg s2, ite_self]; exact I _ _ h2
      · rw [if_neg c1]
        by_cases c3 : a3 = 0
        · rw [if_pos c3]; exact I _ _ h2
        · rw [if_neg c3]; exact I _ _ h2
theorem Inv.waitsFor {S u : Nat} {m : mD} (h : Inv S m) (hu : u < 12) (hu4 : 4 ≤ u) (h43 : ¬ m 0 43 = 1) : Inv S (FwaitsFor u m) := by
  have e : FwaitsFor u m = FwaitsFor_8 9 u (-1) (nI 0) (nI 11) m := rfl
  rw [e]
  rcases FwaitsFor_r (m := m) (u := u) 9 11 (-1) (nI 0) (by decide) (Or.inl (by decide)) with z | z | z | ⟨c, hc, z⟩
  · rw [z]; exact h
  · rw [z]; exact h.tells (Or.inr rfl) hu hu4
  · rw [z]; exact h.wts
  · rw [z]; exact (h.free h43).tells (Or.inr rfl) hu hu4
theorem iMM.dl {s u : Nat} (hs : s < 12) : ∀ (j M : Nat) (m : mD), iMM m → M ≤ 12 → m 2 s = nI M → j ≤ M → iMM (Fdl s u j m) := by
  intro j
  induction j with
  | zero => intro M m h _ _ _; exact h
  | succ j ih =>
    intro M m h hM hm hj
    rw [Fdl]
    by_cases c : m 1 (13 * (12 * s + j) + 0) = nI u
    · rw [if_pos c]
      exact ih (M - 1) _ (h.drop hs hm hM (by omega)) (by omega) (mDrop_2 hm hM) (by omega)
    · rw [if_neg c]; exact ih M m h hM hm (by omega)
theorem Inv.ends {S u v : Nat} {m : mD} {w k : Int32} (h : Inv S m) (hu : u < 12) (hu4 : 4 ≤ u) (hv : v < 12) (hv4 : 4 ≤ v) (hk : k = nI 9 ∨ (k = nI 11 ∧ m 11 u = nI v)) : Inv S (Fends (nI v) u w k m) := by
  obtain ⟨h1, h2, ⟨a1, a2, a3, a4, a5⟩, h4⟩ := h
  have mo : ∀ a j, ¬ (j = u ∧ (a = 7 ∨ a = 12 ∨ a = 8 ∨ a = 13 ∨ a = 2)) → mE1 u w m a j = m a j := fun a j => mE1_o
  have e2 : mE1 u w m 2 u = nI 0 := by rw [mE1, ab_up_eq]
  have e7 : mE1 u w m 7 u = nI 2 := by rw [mE1, ab_up_ne (by decide), ab_up_ne (by decide), ab_up_ne (by decide), ab_up_ne (by decide), ab_up_eq]
  have E1 : iMM (mE1 u w m) := by
    obtain ⟨b1, b2, ⟨L, b3⟩, b4⟩ := h1
    have g2 : ∀ i, i < 12 → mE1 u w m 2 i = m 2 i ∨ mE1 u w m 2 i = nI 0 := fun i _ => by
      by_cases c : i = u
      · subst c; exact Or.inr e2
      · exact Or.inl (mo 2 i (by omega))
    have g5 : ∀ i, mE1 u w m 5 i = m 5 i := fun i => mo 5 i (by omega)
    exact ⟨b1.clr g2 (fun i _ => Or.inl (g5 i)), b2.clr (fun i => mo 1 i (by omega)) g2 (fun i => mo 4 i (by omega)) (fun i _ => Or.inl (g5 i)), ⟨L, b3.fr (fun i => mo 1 i (by omega)) (fun i hi => mo 2 i (by omega)) (fun i => mo 4 i (by omega)) (fun i _ => g5 i) (fun j _ => mo 0 j (by omega))⟩, by rw [mo 0 23 (by omega)]; exact b4⟩
  obtain ⟨M2, hM2, m22⟩ := E1.1.1 2 (by decide)
  have E2 : iMM (Fdl 2 u M2 (mE1 u w m)) := iMM.dl (by decide) M2 M2 _ E1 hM2 m22 (Nat.le_refl _)
  obtain ⟨M3, hM3, m23⟩ := E2.1.1 3 (by decide)
  have E3 : iMM (Fdl 3 u M3 (Fdl 2 u M2 (mE1 u w m))) := iMM.dl (by decide) M3 M3 _ E2 hM3 m23 (Nat.le_refl _)
  have fo : ∀ a j, ¬ a = 1 → ¬ (a = 2 ∧ (j = 2 ∨ j = 3)) → Fdl 3 u M3 (Fdl 2 u M2 (mE1 u w m)) a j = mE1 u w m a j := fun a j c1 c2 => by
    rw [Fdl_o _ _ _ _ c1 (by omega), Fdl_o _ _ _ _ c1 (by omega)]
  have e23 : mE1 u w m 2 3 = nI M3 := by rw [← m23]; exact (Fdl_o M2 _ 2 3 (by decide) (by decide)).symm
  have p1 := (Fends2_l (y := nI v) (w := w) (k := k) (u := u) M2 14 M2 (mE1 u w m) hM2 m22 (Nat.le_refl _) (by omega)).1
  have q1 := (Fends3_l (y := nI v) (w := w) (k := k) (u := u) M3 14 M3 (Fdl 2 u M2 (mE1 u w m)) hM3 m23 (Nat.le_refl _) (by omega)).1
  have em : Fends (nI v) u w k m = Fsends 3 2 (Fdrafts (nI 31) (nI u) (nI 0) (Fholds k (nI v) (nI u) (Fdl 3 u M3 (Fdl 2 u M2 (mE1 u w m))))) := by
    have : Fends (nI v) u w k m = Fends_55_2 14 (nI v) u w k (nI (((mE1 u w m) 2 2).toNatClampNeg) - nI 1) (mE1 u w m) := rfl
    rw [this, m22, nI_clamp (by omega), idx_m, p1, e23, nI_clamp (by omega), idx_m, q1]
  have H : Inv S (Fholds k (nI v) (nI u) (Fdl 3 u M3 (Fdl 2 u M2 (mE1 u w m)))) := by
    have g : ∀ a j, ¬ a = 1 → ¬ (a = 2 ∧ (j = 2 ∨ j = 3)) → ¬ (a = 0 ∧ 43 ≤ j ∧ j ≤ 46) → Fholds k (nI v) (nI u) (Fdl 3 u M3 (Fdl 2 u M2 (mE1 u w m))) a j = mE1 u w m a j := fun a j c1 c2 c3 => by rw [Fholds_o c3, fo a j c1 c2]
    refine ⟨E3.fr (fun i => Fholds_o (by omega)) (fun i _ => Fholds_o (by omega)) (fun i => Fholds_o (by omega)) (fun i _ => Fholds_o (by omega)) (fun j _ => Fholds_o (by omega)), h2.fr (Nat.le_refl _) (fun _ => by rw [g 2 1 (by omega) (by omega) (by omega)]; exact mo 2 1 (by omega)) (fun j hj => by rw [g 0 j (by omega) (by omega) (by omega)]; exact mo 0 j (by omega)), ⟨fun x hx h4x => ?_, fun x hx h4x => ?_, fun _ => ⟨u, v, hu, hu4, hv, hv4, rfl, rfl, ?_⟩, fun x hx h4x => by rw [g 5 x (by omega) (by omega) (by omega), mo 5 x (by omega)]; exact a4 x hx h4x, Or.inr rfl⟩, h4.fr (fun q j _ _ => by rw [g q j (by omega) (by omega) (by omega)]; exact mo q j (by omega)) (fun j _ _ => by rw [g 0 j (by omega) (by omega) (by omega)]; exact mo 0 j (by omega))⟩
    · rw [g 7 x (by omega) (by omega) (by omega)]
      by_cases e : x = u
      · subst e; rw [e7]; exact Or.inr (Or.inr rfl)
      · rw [mo 7 x (by omega)]; exact a1 x hx h4x
    · rw [g 7 x (by omega) (by omega) (by omega), g 11 x (by omega) (by omega) (by omega), mo 11 x (by omega)]
      by_cases e : x = u
      · subst e
        rw [e7]
        rcases a2 x hx h4x with z | ⟨y, y1, y2, y3, -⟩
        · exact Or.inl z
        · exact Or.inr ⟨y, y1, y2, y3, by decide⟩
      · rw [mo 7 x (by omega)]; exact a2 x hx h4x
    · rw [g 7 u (by omega) (by omega) (by omega), e7, g 11 u (by omega) (by omega) (by omega), mo 11 u (by omega)]
      rcases hk with z | z
      · exact Or.inr (Or.inl ⟨z, rfl⟩)
      · exact Or.inr (Or.inr ⟨z.1, rfl, z.2⟩)
  rw [em]
  exact H.snd (f := 3) (t := 2) (by decide) (by decide) (by decide) (Or.inr (Or.inr (Or.inr (Or.inr (Or.inl ⟨rfl, Or.inl ⟨rfl, Or.inr ⟨rfl, u - 4, by omega, by rw [show u - 4 + 4 = u by omega]⟩⟩⟩))))) (by decide) (by decide)
