/-! PROCESSES, VII: done of an end -/
def FXgE (z4 : xD) : xD :=
        if (z4.1 358 ((z4.1 357 6).toNatClampNeg)) = (-1) then
          FXlast (ab_up z4.1 360 ((z4.1 357 6).toNatClampNeg) (nI (0)), z4.2)
        else
          if (FX10_isUser (z4.1 358 ((z4.1 357 6).toNatClampNeg))) = 0 then
            FXlast z4
          else
            if (z4.1 361 ((z4.1 358 ((z4.1 357 6).toNatClampNeg)).toNatClampNeg)) = 0 then
              FXlast z4
            else
              FXlast (FX1_send (nI (3)) (z4.1 358 ((z4.1 357 6).toNatClampNeg)) (nI (50)) ((FX8_collect (z4.1 357 6) (ab_up z4.1 361 ((z4.1 358 ((z4.1 357 6).toNatClampNeg)).toNatClampNeg) (nI (0)), z4.2)).1) (nI (0)) (FX8_collect (z4.1 357 6) (ab_up z4.1 361 ((z4.1 358 ((z4.1 357 6).toNatClampNeg)).toNatClampNeg) (nI (0)), z4.2)).2)
theorem FX8_goOn_end {x : xD} (h4 : ¬ x.1 357 4 = 0) (hu : ¬ FX10_isUser (x.1 357 6) = 0) (h5 : x.1 357 5 = 0) : FX8_goOn x = FXgE (FX8_leaveChildren (x.1 357 6) (ab_up x.1 357 4 (nI 0), x.2)) := by
  rw [FX8_goOn, if_neg h4, if_neg hu]
  refine (if_pos ?_).trans ?_
  · exact h5
  · rfl
def DXls (X : xD) : Prop := ¬ X.1 357 7 = -1 → DX1_send (nI 3) (X.1 357 7) (nI 50) (nI 0) (nI 0) X
def DXgE (z4 : xD) : Prop :=
        (¬ (z4.1 357 6) < 0) ∧
        (((z4.1 357 6).toNatClampNeg) < 12) ∧
        (((z4.1 358 ((z4.1 357 6).toNatClampNeg)) = (-1)) → DXls (ab_up z4.1 360 ((z4.1 357 6).toNatClampNeg) (nI (0)), z4.2)) ∧
        (¬ ((z4.1 358 ((z4.1 357 6).toNatClampNeg)) = (-1)) →
          (((FX10_isUser (z4.1 358 ((z4.1 357 6).toNatClampNeg))) = 0) → DXls z4) ∧
          (¬ ((FX10_isUser (z4.1 358 ((z4.1 357 6).toNatClampNeg))) = 0) →
            (¬ (z4.1 358 ((z4.1 357 6).toNatClampNeg)) < 0) ∧
            (((z4.1 358 ((z4.1 357 6).toNatClampNeg)).toNatClampNeg) < 12) ∧
            (((z4.1 361 ((z4.1 358 ((z4.1 357 6).toNatClampNeg)).toNatClampNeg)) = 0) → DXls z4) ∧
            (¬ ((z4.1 361 ((z4.1 358 ((z4.1 357 6).toNatClampNeg)).toNatClampNeg)) = 0) →
              (DX8_collect (z4.1 357 6) (ab_up z4.1 361 ((z4.1 358 ((z4.1 357 6).toNatClampNeg)).toNatClampNeg) (nI (0)), z4.2)) ∧
              (DX1_send (nI (3)) (z4.1 358 ((z4.1 357 6).toNatClampNeg)) (nI (50)) ((FX8_collect (z4.1 357 6) (ab_up z4.1 361 ((z4.1 358 ((z4.1 357 6).toNatClampNeg)).toNatClampNeg) (nI (0)), z4.2)).1) (nI (0)) (FX8_collect (z4.1 357 6) (ab_up z4.1 361 ((z4.1 358 ((z4.1 357 6).toNatClampNeg)).toNatClampNeg) (nI (0)), z4.2)).2) ∧
              DXls (FX1_send (nI (3)) (z4.1 358 ((z4.1 357 6).toNatClampNeg)) (nI (50)) ((FX8_collect (z4.1 357 6) (ab_up z4.1 361 ((z4.1 358 ((z4.1 357 6).toNatClampNeg)).toNatClampNeg) (nI (0)), z4.2)).1) (nI (0)) (FX8_collect (z4.1 357 6) (ab_up z4.1 361 ((z4.1 358 ((z4.1 357 6).toNatClampNeg)).toNatClampNeg) (nI (0)), z4.2)).2))))
theorem DXls_l {X : xD} (h : DXls X) : ((X.1 357 7 = -1) → True) ∧ (¬ (X.1 357 7 = -1) → (DX1_send (nI 3) (X.1 357 7) (nI 50) (nI 0) (nI 0) X) ∧ True) := ⟨fun _ => trivial, fun z => ⟨h z, trivial⟩⟩
theorem DX8_goOn_end {x : xD} (h5 : x.1 357 5 = 0) (hl : DX8_leaveChildren (x.1 357 6) (ab_up x.1 357 4 (nI 0), x.2)) (hD : DXgE (FX8_leaveChildren (x.1 357 6) (ab_up x.1 357 4 (nI 0), x.2))) : DX8_goOn x := by
  obtain ⟨a1, a2, a3, a4⟩ := hD
  refine ⟨fun _ => trivial, fun _ => ⟨fun _ => trivial, fun _ => ⟨fun _ => ⟨hl, a1, a2, fun z => ⟨a1, a2, DXls_l (a3 z)⟩, fun z => ⟨fun y => DXls_l ((a4 z).1 y), fun y => ?_⟩⟩, fun z => absurd h5 z⟩⟩⟩
  obtain ⟨b1, b2, b3, b4⟩ := (a4 z).2 y
  exact ⟨b1, b2, fun w => DXls_l (b3 w), fun w => ⟨b1, b2, (b4 w).1, (b4 w).2.1, DXls_l (b4 w).2.2⟩⟩
theorem FdE_eq {s : Nat} {M : mD} (hs : s < 12) : FdE (nI s) M = (if 0 ≤ M 11 s then (if M 13 ((M 11 s).toNatClampNeg) = 0 then Flast M else Flast (Ftells 3 ((M 11 s).toNatClampNeg) (Ffreed s (ab_up M 13 ((M 11 s).toNatClampNeg) (nI 0))).1 (Ffreed s (ab_up M 13 ((M 11 s).toNatClampNeg) (nI 0))).2)) else Flast (ab_up M 7 s (nI 0))) := by
  have hc : (nI s).toNatClampNeg = s := nI_clamp (by omega)
  rw [FdE, hc]
  rfl
def Dls (M : mD) : Prop := M 0 44 = nI 11 → ¬ M 0 45 < 0 ∧ Dtells 3 ((M 0 45).toNatClampNeg) (nI 0) M
theorem Dls_l {M : mD} (h : Dls M) : ((M 0 44 = nI 11) → (¬ M 0 45 < 0) ∧ (Dtells 3 ((M 0 45).toNatClampNeg) (nI 0) M) ∧ True) ∧ (¬ (M 0 44 = nI 11) → True) := ⟨fun z => ⟨(h z).1, (h z).2, trivial⟩, fun _ => trivial⟩
theorem DdE_of {s : Nat} {M : mD} (hs : s < 12) (h1 : 0 ≤ M 11 s → ¬ M 11 s < 0 ∧ (M 11 s).toNatClampNeg < 12 ∧ (M 13 ((M 11 s).toNatClampNeg) = 0 → Dls M) ∧ (¬ M 13 ((M 11 s).toNatClampNeg) = 0 → Dtells 3 ((M 11 s).toNatClampNeg) (Ffreed s (ab_up M 13 ((M 11 s).toNatClampNeg) (nI 0))).1 (Ffreed s (ab_up M 13 ((M 11 s).toNatClampNeg) (nI 0))).2 ∧ Dls (Ftells 3 ((M 11 s).toNatClampNeg) (Ffreed s (ab_up M 13 ((M 11 s).toNatClampNeg) (nI 0))).1 (Ffreed s (ab_up M 13 ((M 11 s).toNatClampNeg) (nI 0))).2))) (h2 : ¬ 0 ≤ M 11 s → Dls (ab_up M 7 s (nI 0))) : DdE (nI s) M := by
  have hc : (nI s).toNatClampNeg = s := nI_clamp (by omega)
  have p := nI_pos (n := s) (by omega)
  rw [DdE, hc]
  refine ⟨p, hs, fun z => ?_, fun z => ⟨p, hs, Dls_l (h2 z)⟩⟩
  obtain ⟨b1, b2, b3, b4⟩ := h1 z
  exact ⟨b1, b2, fun y => Dls_l (b3 y), fun y => ⟨b1, b2, p, ⟨hs, hs, hs, trivial⟩, b1, (b4 y).1, Dls_l (b4 y).2⟩⟩
theorem gE_rel {X : xD} {M : mD} {s v : Nat} (h : R3 X M) (hs : s < 12) (hs4 : 4 ≤ s) (hv : v < 12) (hv4 : 4 ≤ v) (hd : M 0 23 = 0 ∨ M 0 23 = 1) (h5 : M 5 3 = -1) (htl : ¬ M 0 34 = 0) (h6 : X.1 357 6 = nI s) (h45 : M 0 45 = nI v) (h7 : ¬ M 7 s = nI 1) (hp : M 11 s = -1 ∨ ∃ w, w < 12 ∧ 4 ≤ w ∧ M 11 s = nI w) (hk : (M 0 44 = nI 9 ∧ X.1 357 7 = -1) ∨ (M 0 44 = nI 11 ∧ X.1 357 7 = nI v ∧ (M 11 s = nI v ∨ M 11 s = -1))) : DXgE X ∧ DdE (nI s) M ∧ R3 (FXgE X) (FdE (nI s) M) := by
  have hc : (nI s).toNatClampNeg = s := nI_clamp (by omega)
  have ps := nI_pos (n := s) (by omega)
  have hpar := parent_of h hs hs4
  have hk' : (M 0 44 = nI 9 ∧ X.1 357 7 = -1) ∨ (M 0 44 = nI 11 ∧ X.1 357 7 = nI v) := hk.elim (fun z => Or.inl z) (fun z => Or.inr ⟨z.1, z.2.1⟩)
  rw [FdE_eq hs, FXgE, DXgE, h6, hc, hpar]
  rcases hp with hp | ⟨w, hw, hw4, hp⟩
  · have n0 : ¬ (0 : Int32) ≤ M 11 s := by rw [hp]; decide
    have F := free_rel h hs hs4 h7
    have e1 : ab_up (ab_up X.1 360 s (nI 0)) 358 s (-1) = ab_up X.1 360 s (nI 0) := ab_up_self (by rw [ab_up_ne (by decide), hpar, hp])
    have e2 : ab_up (ab_up M 7 s (nI 0)) 11 s (-1) = ab_up M 7 s (nI 0) := ab_up_self (by rw [ab_up_ne (by decide), hp])
    rw [e1, e2] at F
    obtain ⟨l1, l2, l3⟩ := last_rel (X := (ab_up X.1 360 s (nI 0), X.2)) (M := ab_up M 7 s (nI 0)) F hv hv4 hd htl h45 hk' (fun _ => Or.inl h5)
    rw [if_pos hp, if_neg n0]
    exact ⟨⟨ps, hs, fun _ => l1, fun z => absurd hp z⟩, DdE_of hs (fun z => absurd z n0) (fun _ => l2), l3⟩
  · have n1 : ¬ M 11 s = -1 := by rw [hp]; exact nI_ne_m1 w (by omega)
    have n0 : (0 : Int32) ≤ M 11 s := by rw [hp]; exact nI_pos' (by omega)
    have hcw : (nI w).toNatClampNeg = w := nI_clamp (by omega)
    have pw := nI_pos (n := w) (by omega)
    have hux := userX hw hw4
    have hwa := waits_of h hw hw4
    have hk3 : M 0 44 = nI 11 → w = v := fun z => by
      rcases hk with y | y
      · rw [y.1] at z; exact absurd z (by decide)
      · exact (nI_eq (by omega) (by omega)).mp (hp.symm.trans (y.2.2.resolve_right n1))
    rw [if_neg n1, if_pos n0, hp, if_neg hux, hcw, hwa]
    by_cases c : M 13 w = 0
    · obtain ⟨l1, l2, l3⟩ := last_rel (X := X) (M := M) h hv hv4 hd htl h45 hk' (fun _ => Or.inl h5)
      rw [if_pos c, if_pos c]
      refine ⟨⟨ps, hs, fun z => absurd z (by rw [← hp]; exact n1), fun _ => ⟨fun z => absurd z hux, fun _ => ⟨pw, hw, fun _ => l1, fun z => absurd c z⟩⟩⟩, DdE_of hs (fun _ => ?_) (fun z => absurd n0 z), l3⟩
      rw [hp, hcw]
      exact ⟨pw, hw, fun _ => l2, fun z => absurd c z⟩
    · have W := waits_rel (u := w) (v := nI 0) h
      have h7' : ¬ (ab_up M 13 w (nI 0)) 7 s = nI 1 := by rw [ab_up_ne (by decide)]; exact h7
      obtain ⟨f1, f2, f3, f4, f5, f6, f7⟩ := freed_tells (u := w) (k := s) W hw hs hs4 h7' (by rw [ab_up_ne (by decide)]; exact hd) (by rw [ab_up_ne (by decide)]; exact h5) (by rw [ab_up_ne (by decide)]; exact htl)
      obtain ⟨Mw, hMw, ew, -⟩ := W.1.2.1 w hw
      have fo : ∀ a j, ¬ a = 7 → ¬ a = 11 → ¬ a = 13 → (Ffreed s (ab_up M 13 w (nI 0))).2 a j = M a j := fun a j e1 e2 e3 => by
        show ab_up (ab_up (ab_up M 13 w (nI 0)) 7 s (nI 0)) 11 s (-1) a j = _
        rw [ab_up_ne e2, ab_up_ne e1, ab_up_ne e3]
      have tc := tells_cases (m := (Ffreed s (ab_up M 13 w (nI 0))).2) (p := w) (M := Mw) (v := (Ffreed s (ab_up M 13 w (nI 0))).1) hw hw4 (by
        rw [fo 2 w (by decide) (by decide) (by decide)]
        have : ab_up M 13 w (nI 0) 2 w = M 2 w := ab_up_ne (by decide)
        rw [← this]; exact ew) hMw (by rw [fo 0 23 (by decide) (by decide) (by decide)]; exact hd) (by rw [fo 5 3 (by decide) (by decide) (by decide)]; exact h5)
      have xo : (FX8_collect (nI s) (ab_up X.1 361 w (nI 0), X.2)).2.1 357 7 = X.1 357 7 := by
        rw [(FX8_collect_eq hs hs4).1]
        show ab_up (ab_up (ab_up X.1 361 w (nI 0)) 360 s (nI 0)) 358 s (-1) 357 7 = _
        rw [ab_up_ne (by decide), ab_up_ne (by decide), ab_up_ne (by decide)]
      have t7 := (f6 357 7 (by omega)).trans xo
      have t44 := (f7 0 44 (by omega)).trans (fo 0 44 (by decide) (by decide) (by decide))
      have t45 := (f7 0 45 (by omega)).trans (fo 0 45 (by decide) (by decide) (by decide))
      have t23 := (f7 0 23 (by omega)).trans (fo 0 23 (by decide) (by decide) (by decide))
      have t34 := (f7 0 34 (by omega)).trans (fo 0 34 (by decide) (by decide) (by decide))
      obtain ⟨l1, l2, l3⟩ := last_rel f5 hv hv4 (by rw [t23]; exact hd) (by rw [t34]; exact htl) (t45.trans h45) (by rw [t44, t7]; exact hk') (fun z => by
        have e := hk3 (t44.symm.trans z)
        rw [← e]
        exact tc)
      rw [if_neg c, if_neg c]
      refine ⟨⟨ps, hs, fun z => absurd z (by rw [← hp]; exact n1), fun _ => ⟨fun z => absurd z hux, fun _ => ⟨pw, hw, fun z => absurd z c, fun _ => ⟨f1, f2, l1⟩⟩⟩⟩, DdE_of hs (fun _ => ?_) (fun z => absurd n0 z), l3⟩
      rw [hp, hcw]
      exact ⟨pw, hw, fun z => absurd z c, fun _ => ⟨f4, l2⟩⟩
theorem done_rel {x : xD} {m : mD} (h : R3 x m) (hd : m 0 23 = 0 ∨ m 0 23 = 1) (h5 : m 5 3 = -1) (htl : ¬ m 0 34 = 0) (hi : iHel m) (hp : iPar m) (h43 : m 0 43 = 1) : DX8_goOn x ∧ Ddone m ∧ R3 (FX8_goOn x) (Fdone m) := by
  obtain ⟨s, v, hs, hs4, hv, hv4, h46, h45, hk⟩ := hi h43
  have b7' : (∀ u, u < 12 → 4 ≤ u → x.1 358 u = m 11 u ∧ x.1 359 u = m 12 u ∧ x.1 360 u = (if m 7 u = 2 then 1 else 0) ∧ x.1 361 u = m 13 u) ∧ x.1 357 4 = m 0 43 ∧ (m 0 43 = 1 → x.1 357 5 = (if m 0 44 = 8 then 1 else 0) ∧ x.1 357 6 = m 0 46 ∧ x.1 357 7 = (if m 0 44 = 9 then -1 else m 0 45)) := h.2.2.2.2.2.2.2.2.1
  obtain ⟨-, c4, c5⟩ := b7'
  obtain ⟨c5, c6, c7⟩ := c5 h43
  have hcs : (nI s).toNatClampNeg = s := nI_clamp (by omega)
  have hcv : (nI v).toNatClampNeg = v := nI_clamp (by omega)
  have ps := nI_pos (n := s) (by omega)
  have x4 : ¬ x.1 357 4 = 0 := by rw [c4, h43]; decide
  have x6 : x.1 357 6 = nI s := c6.trans h46
  have xu : ¬ FX10_isUser (x.1 357 6) = 0 := by rw [x6]; exact userX hs hs4
  have U := unhold_rel h
  by_cases k8 : m 0 44 = nI 8
  · have k8' : m 0 44 = 8 := k8
    have k9' : ¬ m 0 44 = 9 := by rw [k8]; decide
    have s0 : m 7 s = 0 := by
      rcases hk with z | z | z
      · exact z.2
      · rw [z.1] at k8; exact absurd k8 (by decide)
      · rw [z.1] at k8; exact absurd k8 (by decide)
    rw [if_pos k8'] at c5
    rw [if_neg k9', h45] at c7
    have x5 : ¬ x.1 357 5 = 0 := by rw [c5]; decide
    have B := born_rel (s := s) (v := nI v) U hs hs4 (by rw [ab_up_ne (by decide)]; exact s0) (by rw [ab_up_eq]; decide)
    obtain ⟨t1, t2, t3, -⟩ := tells_rel (f := 3) (u := v) (v := nI s) B (by decide) hv (by omega) hd h5 htl
    have ex : FX8_goOn x = FX1_send (nI 3) (nI v) (nI 50) (nI s) (nI 0) (ab_up (ab_up (ab_up (ab_up x.1 357 4 (nI 0)) 3 s (nI 1)) 358 s (nI v)) 359 s (nI 0), x.2) := by
      rw [FX8_goOn_fork x4 xu x5, x6, c7, hcs]
    have em : Fdone m = Ftells 3 v (nI s) (ab_up (ab_up (ab_up (ab_up m 0 43 (nI 0)) 7 s (nI 1)) 11 s (nI v)) 12 s (nI 0)) := by
      have e1 : (ab_up m 0 43 (nI 0)) 0 44 = nI 8 := k8
      have e2 : (ab_up m 0 43 (nI 0)) 0 46 = nI s := h46
      have e3 : (ab_up m 0 43 (nI 0)) 0 45 = nI v := h45
      rw [Fdone]
      refine (if_pos e1).trans ?_
      rw [e2, hcs]
      have e4 : (ab_up (ab_up m 0 43 (nI 0)) 7 s (nI 1)) 0 45 = nI v := h45
      dsimp only
      rw [e4]
      have e5 : (ab_up (ab_up (ab_up (ab_up m 0 43 (nI 0)) 7 s (nI 1)) 11 s (nI v)) 12 s (nI 0)) 0 45 = nI v := h45
      show Ftells 3 ((ab_up (ab_up (ab_up (ab_up m 0 43 (nI 0)) 7 s (nI 1)) 11 s (nI v)) 12 s (nI 0) 0 45).toNatClampNeg) (nI s) _ = _
      rw [e5, hcv]
    have dm : Ddone m := by
      have e1 : (ab_up m 0 43 (nI 0)) 0 44 = nI 8 := k8
      have e2 : (ab_up m 0 43 (nI 0)) 0 46 = nI s := h46
      have e4 : (ab_up (ab_up m 0 43 (nI 0)) 7 s (nI 1)) 0 45 = nI v := h45
      have e5 : (ab_up (ab_up (ab_up (ab_up m 0 43 (nI 0)) 7 s (nI 1)) 11 s (nI v)) 12 s (nI 0)) 0 45 = nI v := h45
      rw [Ddone]
      refine ⟨fun _ => ?_, fun z => absurd e1 z⟩
      rw [e2, hcs]
      dsimp only
      rw [e4]
      refine ⟨ps, hs, ps, hs, ps, hs, ?_⟩
      show ¬ (ab_up (ab_up (ab_up (ab_up m 0 43 (nI 0)) 7 s (nI 1)) 11 s (nI v)) 12 s (nI 0)) 0 45 < 0 ∧ Dtells 3 ((ab_up (ab_up (ab_up (ab_up m 0 43 (nI 0)) 7 s (nI 1)) 11 s (nI v)) 12 s (nI 0) 0 45).toNatClampNeg) (nI s) (ab_up (ab_up (ab_up (ab_up m 0 43 (nI 0)) 7 s (nI 1)) 11 s (nI v)) 12 s (nI 0)) ∧ True
      rw [e5, hcv]
      exact ⟨nI_pos (by omega), t2, trivial⟩
    have dx : DX8_goOn x := by
      have y6 : (ab_up x.1 357 4 (nI 0)) 357 6 = nI s := by rw [ab_up_nj (by decide)]; exact x6
      have y7 : (ab_up x.1 357 4 (nI 0)) 357 7 = nI v := by rw [ab_up_nj (by decide)]; exact c7
      have y5 : ¬ (ab_up x.1 357 4 (nI 0)) 357 5 = 0 := by rw [ab_up_nj (by decide)]; exact x5
      have a6 : (ab_up (ab_up x.1 357 4 (nI 0)) 3 s (nI 1)) 357 6 = nI s := by rw [ab_up_ne (by decide)]; exact y6
      have a7 : (ab_up (ab_up x.1 357 4 (nI 0)) 3 s (nI 1)) 357 7 = nI v := by rw [ab_up_ne (by decide)]; exact y7
      have d6 : (ab_up (ab_up (ab_up x.1 357 4 (nI 0)) 3 s (nI 1)) 358 s (nI v)) 357 6 = nI s := by rw [ab_up_ne (by decide)]; exact a6
      have f6 : (ab_up (ab_up (ab_up (ab_up x.1 357 4 (nI 0)) 3 s (nI 1)) 358 s (nI v)) 359 s (nI 0)) 357 6 = nI s := by rw [ab_up_ne (by decide)]; exact d6
      have f7 : (ab_up (ab_up (ab_up (ab_up x.1 357 4 (nI 0)) 3 s (nI 1)) 358 s (nI v)) 359 s (nI 0)) 357 7 = nI v := by rw [ab_up_ne (by decide), ab_up_ne (by decide)]; exact a7
      rw [DX8_goOn]
      dsimp only
      rw [y6, hcs, a6, hcs, a7, d6, hcs, f6, f7]
      exact ⟨fun _ => trivial, fun _ => ⟨fun _ => trivial, fun _ => ⟨fun z => absurd z y5, fun _ => ⟨ps, hs, ps, hs, ps, hs, t1, trivial⟩⟩⟩⟩
    rw [ex, em]
    exact ⟨dx, dm, t3⟩
  · have k8' : ¬ m 0 44 = 8 := k8
    rw [if_neg k8'] at c5
    have s2 : m 7 s = nI 2 := by
      rcases hk with z | z | z
      · exact absurd z.1 k8
      · exact z.2
      · exact z.2.1
    have hsm : ¬ nI s = -1 := nI_ne_m1 s (by omega)
    obtain ⟨l1, l2, l3⟩ := leave_l (s := nI s) 8 4 9 _ _ U (by decide) (by decide) (by decide)
    have Fp := Flc_p hsm 8 4 (ab_up m 0 43 (nI 0)) s
    have Fo : ∀ a j, ¬ a = 11 → ¬ a = 7 → ¬ (a = 0 ∧ j = 43) → Flc (nI s) 8 4 (ab_up m 0 43 (nI 0)) a j = m a j := fun a j e1 e2 e3 => by rw [Flc_o _ _ _ _ _ e1 e2, ab_up_na e3]
    have e11 : (ab_up m 0 43 (nI 0)) 11 s = m 11 s := ab_up_ne (by decide)
    have e7 : (ab_up m 0 43 (nI 0)) 7 s = m 7 s := ab_up_ne (by decide)
    rw [e11, e7] at Fp
    have z6 : (FX8_leaveChildren_2 9 (nI s) 4 (ab_up x.1 357 4 (nI 0), x.2)).1 357 6 = nI s := by rw [l3]; show ab_up x.1 357 4 (nI 0) 357 6 = _; rw [ab_up_nj (by decide)]; exact x6
    have z7 : (FX8_leaveChildren_2 9 (nI s) 4 (ab_up x.1 357 4 (nI 0), x.2)).1 357 7 = x.1 357 7 := by rw [l3]; show ab_up x.1 357 4 (nI 0) 357 7 = _; rw [ab_up_nj (by decide)]
    have G := gE_rel (v := v) l2 hs hs4 hv hv4 (by rw [Fo 0 23 (by decide) (by decide) (by decide)]; exact hd) (by rw [Fo 5 3 (by decide) (by decide) (by decide)]; exact h5) (by rw [Fo 0 34 (by decide) (by decide) (by decide)]; exact htl) z6 (by rw [Fo 0 45 (by decide) (by decide) (by decide)]; exact h45)
      (by
        rcases Fp.2 with z | z
        · rw [z, s2]; decide
        · rw [z.2.2.1]; decide)
      (by
        rcases Fp.1 with z | z
        · rw [z]
          rcases hp s hs hs4 with y | ⟨w, y1, y2, y3, -⟩
          · exact Or.inl y
          · exact Or.inr ⟨w, y1, y2, y3⟩
        · exact Or.inl z.2)
      (by
        rw [Fo 0 44 (by decide) (by decide) (by decide), z7, c7]
        rcases hk with z | z | ⟨z1, z2, z3⟩
        · exact absurd z.1 k8
        · exact Or.inl ⟨z.1, if_pos z.1⟩
        · refine Or.inr ⟨z1, ?_, ?_⟩
          · rw [if_neg (by rw [z1]; decide), h45]
          · rcases Fp.1 with y | y
            · exact Or.inl (y.trans z3)
            · exact Or.inr y.2)
    obtain ⟨g1, g2, g3⟩ := G
    obtain ⟨d1, d2⟩ := Fdone_56_l (s := nI s) 8 4 9 (ab_up m 0 43 (nI 0)) (by decide) (by decide) (by decide)
    have e44 : ¬ (ab_up m 0 43 (nI 0)) 0 44 = nI 8 := k8
    have e46 : (ab_up m 0 43 (nI 0)) 0 46 = nI s := h46
    have em : Fdone m = FdE (nI s) (Flc (nI s) 8 4 (ab_up m 0 43 (nI 0))) := by
      rw [Fdone]
      refine (if_neg e44).trans ?_
      rw [e46]
      exact d1
    have dm : Ddone m := by
      rw [Ddone]
      refine ⟨fun z => absurd z e44, fun _ => ?_⟩
      rw [e46]
      exact d2 g2
    have ex : FX8_goOn x = FXgE (FX8_leaveChildren_2 9 (nI s) 4 (ab_up x.1 357 4 (nI 0), x.2)) := by
      rw [FX8_goOn_end x4 xu c5, x6]
      rfl
    have dx : DX8_goOn x := DX8_goOn_end c5 (by rw [x6]; exact l1) (by rw [x6]; exact g1)
    rw [ex, em]
    exact ⟨dx, dm, g3⟩
