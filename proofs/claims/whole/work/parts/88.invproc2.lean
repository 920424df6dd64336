/-! THE INVARIANT, IX: PROCESSES' turn -/
theorem Inv.last {S v : Nat} {m : mD} (h : Inv S m) (hv : v < 12) (hv4 : 4 ≤ v) (h45 : m 0 45 = nI v) : Inv S (Flast m) := by
  rw [Flast, h45, nI_clamp (by omega)]
  by_cases c : m 0 44 = nI 11
  · rw [if_pos c]; exact h.tells (Or.inr rfl) hv hv4
  · rw [if_neg c]; exact h
theorem tells_fr {S f u : Nat} {m : mD} {v : Int32} (h : Inv S m) (hf : f = 2 ∨ f = 3) (hu : u < 12) (hu4 : 4 ≤ u) : FrM m (Ftells f u v m) := (h.1.tells (v := v) hf hu hu4).2.1
theorem Inv.done {S : Nat} {m : mD} (h : Inv S m) (h43 : m 0 43 = 1) : Inv S (Fdone m) := by
  have h' := h
  obtain ⟨h1, h2, ⟨a1, a2, a3, a4, a5⟩, h4⟩ := h'
  obtain ⟨s, v, hs, hs4, hv, hv4, h46, h45, hk⟩ := a3 h43
  have hcs : (nI s).toNatClampNeg = s := nI_clamp (by omega)
  have hcv : (nI v).toNatClampNeg = v := nI_clamp (by omega)
  have n43 : ¬ (ab_up m 0 43 (nI 0)) 0 43 = 1 := by rw [ab_up_eq]; decide
  have U : Inv S (ab_up m 0 43 (nI 0)) := h.p3 (fun q j hq => ab_up_ne (by omega)) (fun j hj => ab_up_nj (by omega)) ⟨a1, a2, fun z => absurd z n43, a4, Or.inl (by rw [ab_up_eq]; exact nI00)⟩
  by_cases k8 : m 0 44 = nI 8
  · have em : Fdone m = Ftells 3 v (nI s) (ab_up (ab_up (ab_up (ab_up m 0 43 (nI 0)) 7 s (nI 1)) 11 s (nI v)) 12 s (nI 0)) := by
      have e1 : (ab_up m 0 43 (nI 0)) 0 44 = nI 8 := k8
      have e2 : (ab_up m 0 43 (nI 0)) 0 46 = nI s := h46
      rw [Fdone]
      refine (if_pos e1).trans ?_
      rw [e2, hcs]
      have e4 : (ab_up (ab_up m 0 43 (nI 0)) 7 s (nI 1)) 0 45 = nI v := h45
      dsimp only
      rw [e4]
      have e5 : (ab_up (ab_up (ab_up (ab_up m 0 43 (nI 0)) 7 s (nI 1)) 11 s (nI v)) 12 s (nI 0)) 0 45 = nI v := h45
      rw [e5, hcv]
    rw [em]
    refine Inv.tells ?_ (Or.inr rfl) hv hv4
    refine U.p3 (fun q j hq => by rw [ab_up_ne (by omega), ab_up_ne (by omega), ab_up_ne (by omega)]) (fun j hj => by rw [ab_up_ne (by decide), ab_up_ne (by decide), ab_up_ne (by decide)]) ⟨fun x hx h4x => ?_, fun x hx h4x => ?_, fun z => absurd z n43, a4, Or.inl nI00⟩
    · rw [ab_up_ne (by decide), ab_up_ne (by decide)]
      by_cases e : x = s
      · subst e; rw [ab_up_eq]; exact Or.inr (Or.inl rfl)
      · rw [ab_up_nj e, ab_up_ne (by decide)]; exact a1 x hx h4x
    · by_cases e : x = s
      · subst e
        have e1 : ab_up (ab_up (ab_up (ab_up m 0 43 (nI 0)) 7 x (nI 1)) 11 x (nI v)) 12 x (nI 0) 11 x = nI v := by rw [ab_up_ne (by decide), ab_up_eq]
        have e2 : ab_up (ab_up (ab_up (ab_up m 0 43 (nI 0)) 7 x (nI 1)) 11 x (nI v)) 12 x (nI 0) 7 x = nI 1 := by rw [ab_up_ne (by decide), ab_up_ne (by decide), ab_up_eq]
        rw [e1, e2]
        exact Or.inr ⟨v, hv, hv4, rfl, by decide⟩
      · have e1 : ab_up (ab_up (ab_up (ab_up m 0 43 (nI 0)) 7 s (nI 1)) 11 s (nI v)) 12 s (nI 0) 11 x = m 11 x := by rw [ab_up_ne (by decide), ab_up_nj e, ab_up_ne (by decide), ab_up_ne (by decide)]
        have e2 : ab_up (ab_up (ab_up (ab_up m 0 43 (nI 0)) 7 s (nI 1)) 11 s (nI v)) 12 s (nI 0) 7 x = m 7 x := by rw [ab_up_ne (by decide), ab_up_ne (by decide), ab_up_nj e, ab_up_ne (by decide)]
        rw [e1, e2]; exact a2 x hx h4x
  · have e44 : ¬ (ab_up m 0 43 (nI 0)) 0 44 = nI 8 := k8
    have e46 : (ab_up m 0 43 (nI 0)) 0 46 = nI s := h46
    have d1 := (Fdone_56_l (s := nI s) 8 4 9 (ab_up m 0 43 (nI 0)) (by decide) (by decide) (by decide)).1
    have em : Fdone m = FdE (nI s) (Flc (nI s) 8 4 (ab_up m 0 43 (nI 0))) := by
      rw [Fdone]
      refine (if_neg e44).trans ?_
      rw [e46]
      exact d1
    have hsm : ¬ nI s = -1 := nI_ne_m1 s (by omega)
    have Fo : ∀ a j, ¬ a = 11 → ¬ a = 7 → Flc (nI s) 8 4 (ab_up m 0 43 (nI 0)) a j = (ab_up m 0 43 (nI 0)) a j := fun a j e1 e2 => Flc_o _ _ _ _ _ e1 e2
    have C : Inv S (Flc (nI s) 8 4 (ab_up m 0 43 (nI 0))) := by
      refine U.p3 (fun q j hq => Fo q j (by omega) (by omega)) (fun j _ => Fo 0 j (by decide) (by decide)) ⟨fun x hx h4x => ?_, fun x hx h4x => ?_, fun z => ?_, fun x hx h4x => by rw [Fo 5 x (by decide) (by decide)]; exact a4 x hx h4x, Or.inl (by rw [Fo 0 43 (by decide) (by decide), ab_up_eq]; exact nI00)⟩
      · rcases (Flc_p hsm 8 4 (ab_up m 0 43 (nI 0)) x).2 with z | ⟨-, -, z, -⟩
        · rw [z]; exact a1 x hx h4x
        · rw [z]; exact Or.inl nI00
      · have P := Flc_p hsm 8 4 (ab_up m 0 43 (nI 0)) x
        rcases P.2 with z | ⟨-, -, -, z⟩
        · rcases P.1 with y | ⟨-, y⟩
          · rw [y, z]; exact a2 x hx h4x
          · exact Or.inl y
        · exact Or.inl z
      · rw [Fo 0 43 (by decide) (by decide)] at z
        exact absurd z n43
    have c43 : ¬ (Flc (nI s) 8 4 (ab_up m 0 43 (nI 0))) 0 43 = 1 := by rw [Fo 0 43 (by decide) (by decide)]; exact n43
    have c45 : (Flc (nI s) 8 4 (ab_up m 0 43 (nI 0))) 0 45 = nI v := (Fo 0 45 (by decide) (by decide)).trans h45
    generalize Flc (nI s) 8 4 (ab_up m 0 43 (nI 0)) = M at *
    rw [em, FdE_eq hs]
    rcases C.2.2.1.2.1 s hs hs4 with hp | ⟨w, hw, hw4, hp, -⟩
    · have n0 : ¬ (0 : Int32) ≤ M 11 s := by rw [hp]; decide
      rw [if_neg n0]
      have e2 : ab_up (ab_up M 7 s (nI 0)) 11 s (-1) = ab_up M 7 s (nI 0) := ab_up_self (by rw [ab_up_ne (by decide), hp])
      have F := C.2.2.1.free (c := s) c43
      rw [e2] at F
      exact (C.p3 (m' := ab_up M 7 s (nI 0)) (fun q j hq => ab_up_ne (by omega)) (fun j _ => ab_up_ne (by decide)) F).last hv hv4 c45
    · have n0 : (0 : Int32) ≤ M 11 s := by rw [hp]; exact nI_pos' (by omega)
      rw [if_pos n0, hp, nI_clamp (show w < 2 ^ 31 by omega)]
      by_cases c : M 13 w = 0
      · rw [if_pos c]; exact C.last hv hv4 c45
      · rw [if_neg c]
        have W := C.wts (u := w) (v := nI 0)
        have w43 : ¬ (ab_up M 13 w (nI 0)) 0 43 = 1 := c43
        have F := W.free (c := s) w43
        have T := F.tells (f := 3) (u := w) (v := (Ffreed s (ab_up M 13 w (nI 0))).1) (Or.inr rfl) hw hw4
        refine T.last hv hv4 ?_
        rw [tells_fr F (Or.inr rfl) hw hw4 0 45 (by omega)]
        exact c45
theorem Inv.pgo {S v : Nat} {m : mD} (h : Inv S m) (e0 : m 6 0 = nI v) (hv : v < 12) (hk : ¬ m 6 1 = 0 → ¬ m 6 1 = 32 → 4 ≤ v ∧ m 0 43 = 0) : Inv S (Fpgo m) := by
  have hc : (nI v).toNatClampNeg = v := nI_clamp (by omega)
  have nk : ∀ c : Int32, ¬ c = 0 → ¬ c = 32 → m 6 1 = c → 4 ≤ v ∧ m 0 43 = 0 := fun c c0 c32 z => hk (by rw [z]; exact c0) (by rw [z]; exact c32)
  rw [Fpgo, e0, hc]
  by_cases c8 : m 6 1 = 8
  · rw [if_pos c8]; exact h.forks hv (nk 8 (by decide) (by decide) c8).1
  · rw [if_neg c8]
    by_cases c9 : m 6 1 = 9
    · have q := nk 9 (by decide) (by decide) c9
      rw [if_pos c9]; exact h.ends hv q.1 hv q.1 (Or.inl rfl)
    · rw [if_neg c9]
      by_cases c10 : m 6 1 = 10
      · have q := nk 10 (by decide) (by decide) c10
        rw [if_pos c10]; exact h.waitsFor hv q.1 (by rw [q.2]; decide)
      · rw [if_neg c10]
        by_cases c11 : m 6 1 = 11
        · have q := nk 11 (by decide) (by decide) c11
          rw [if_pos c11]
          by_cases y : FisUser (m 6 2) = 0
          · rw [if_pos y]; exact h.tells (Or.inr rfl) hv q.1
          · obtain ⟨n, hn, ea⟩ := user_of y
            rw [if_neg y, ea, nI_clamp (show n + 4 < 2 ^ 31 by omega)]
            by_cases p : m 11 (n + 4) = nI v
            · rw [if_pos p]
              by_cases l : m 7 (n + 4) = nI 1
              · rw [if_pos l]; exact h.ends (by omega) (by omega) hv q.1 (Or.inr ⟨rfl, p⟩)
              · rw [if_neg l]; exact h.tells (Or.inr rfl) hv q.1
            · rw [if_neg p]; exact h.tells (Or.inr rfl) hv q.1
        · rw [if_neg c11]
          by_cases c12 : m 6 1 = 12
          · have q := nk 12 (by decide) (by decide) c12
            rw [if_pos c12]
            by_cases p : 0 ≤ m 11 v
            · rw [if_pos p]; exact h.tells (Or.inr rfl) hv q.1
            · rw [if_neg p]; exact h.tells (Or.inr rfl) hv q.1
          · rw [if_neg c12]
            by_cases c32 : m 6 1 = 32
            · rw [if_pos c32]
              by_cases z : m 0 43 = 0
              · rw [if_pos z]; exact h
              · rw [if_neg z]; exact h.done (h.2.2.1.2.2.2.2.resolve_left z)
            · rw [if_neg c32]; exact h
theorem okB_3 {q : mQ} (h : okB 3 q) : ∃ v, v < 12 ∧ q.1 = nI v ∧ (¬ q.2.1 = 0 → ¬ q.2.1 = 32 → 4 ≤ v) := by
  obtain ⟨f, hf, e, hs⟩ := h
  refine ⟨f, hf, e, fun c0 c32 => ?_⟩
  rcases hs with h | ⟨rfl, h⟩ | ⟨rfl, h⟩ | ⟨rfl, h⟩ | ⟨rfl, h⟩ | ⟨h, -⟩
  · exact absurd h c0
  · omega
  · omega
  · rcases h with h | h | h
    · omega
    · exact absurd h.2 c32
    · omega
  · omega
  · exact h
theorem Inv.prm {S : Nat} {m : mD} (h : Inv S m) : iPrM m := fun k M hM hm hk => okB_3 (h.1.2.1.1 3 M k (by decide) hM hm hk)
theorem Inv.ptake {S k M : Nat} {m : mD} (h : Inv S m) (hm : m 2 3 = nI M) (hM : M ≤ 12) (hk : k < M) (hsel : ¬ m 0 43 = 0 → (m 1 (13 * (12 * 3 + k) + 1) = 0 ∨ m 1 (13 * (12 * 3 + k) + 0) = nI 2)) : Inv S (Fpgo (FtakeOut 3 k m)) := by
  rw [(FtakeOut_eq (p := 3) (k := k) (by decide) hm hk hM).1]
  have T := h.take (k := k) (by decide) hm hM hk
  have e6 : ∀ i, i < 13 → mTake 3 k m 6 i = m 1 (13 * (12 * 3 + k) + i) := fun i hi => mTake_6 hi
  obtain ⟨v, hv, ev, h4⟩ := h.prm k M hM hm hk
  refine T.pgo (v := v) (by rw [e6 0 (by decide)]; exact ev) hv (fun c0 c32 => ?_)
  rw [e6 1 (by decide)] at c0 c32
  have v4 := h4 c0 c32
  refine ⟨v4, ?_⟩
  rw [mTake_o (by decide) (by decide) (by decide)]
  apply Classical.byContradiction
  intro z
  have y := (hsel z).resolve_left c0
  rw [ev] at y
  have : v = 2 := (nI_eq (by omega) (by decide)).mp y
  omega
theorem Inv.processes {S : Nat} {x : xD} {m : mD} (h : Inv S m) (hR : R3 x m) (htl : ¬ m 0 34 = 0) (hi : iProc m) : Inv S (Fprocesses m) := by
  have hd := h.1.2.2.2
  have A := h.again (p := 3) (by decide)
  obtain ⟨-, -, -, a4⟩ := h.1.again (p := 3) (by decide)
  rw [Fprocesses]
  try dsimp only
  by_cases c1 : (FsendsAgain 3 m).1 = 0
  · obtain ⟨e1, e2⟩ := a4 c1
    rw [if_pos c1, e1]
    obtain ⟨M, hM, hm⟩ := h.man.1 3 (by decide)
    by_cases z : m 0 43 = 0
    · rw [(Fprocesses_11_0 (n := 13) hM hm z (fun h0 => by
        obtain ⟨p1, -, -, p4, -⟩ := ptake_rel (k := 0) hR hd e2 htl hi h0 hM hm
        exact ⟨p1, p4⟩)).1]
      by_cases h0 : 0 < M
      · rw [if_pos h0]; exact h.ptake hm hM h0 (fun y => absurd z y)
      · rw [if_neg h0]; exact h
    · obtain ⟨f, hf, f1, f2⟩ := first_ex (fun j => m 1 (13 * (12 * 3 + j) + 1) = 0 ∨ m 1 (13 * (12 * 3 + j) + 0) = nI 2) M
      rw [(Fprocesses_11_l hM hm z hf f1 f2 (fun hfM => by
        obtain ⟨p1, -, -, p4, -⟩ := ptake_rel (k := f) hR hd e2 htl hi hfM hM hm
        exact ⟨p1, p4⟩) 14 0 (by omega) (by omega)).1]
      by_cases hfM : f < M
      · rw [if_pos hfM]; exact h.ptake hm hM hfM (fun _ => f2 hfM)
      · rw [if_neg hfM]; exact h
  · rw [if_neg c1]; exact A
