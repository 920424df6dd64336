/-! call of the face -/
theorem setCall_rel {x : xD} {m : mD} {u : Nat} {v : Int32} (h : R3 x m) (hu : u < 12) : R3 (ab_up x.1 363 u v, x.2) (ab_up m 8 u v) := by
  obtain ⟨r1, r2, b1, b2, b3, b4, b5, b6, b7, b8⟩ := h
  refine ⟨(r1.xc (x' := (ab_up x.1 363 u v, x.2)) (fun _ _ _ _ => rfl) (fun p hp => ab_up_ne (by omega)) (fun p hp a j _ _ => ab_up_ne (by omega)) (fun p hp => rfl) rfl rfl rfl).mc (fun _ _ => rfl) (fun _ _ => rfl) (fun _ _ => rfl) (fun _ _ => rfl), r2.fr (fun p hp j => ⟨ab_up_ne (by omega), ab_up_ne (by omega)⟩) (fun _ _ => rfl) (fun _ _ => rfl) rfl rfl, b1, b2, b3, b4, b5, b6, b7, fun w hw hw4 => ?_⟩
  have c8 : x.1 363 w = m 8 w ∧ x.1 364 w = m 9 w ∧ x.1 365 w = m 10 w := b8 w hw hw4
  show ab_up x.1 363 u v 363 w = ab_up m 8 u v 8 w ∧ x.1 364 w = m 9 w ∧ x.1 365 w = m 10 w
  refine ⟨?_, c8.2⟩
  by_cases e : w = u
  · subst e; rw [ab_up_eq, ab_up_eq]
  · rw [ab_up_nj e, ab_up_nj e]; exact c8.1
theorem small12 {k : Int32} (h1 : ¬ k < nI 1) (h2 : k ≤ nI 12) : ¬ k = 21 ∧ ¬ k = 22 := ⟨fun z => absurd (z ▸ h2) (by decide), fun z => absurd (z ▸ h2) (by decide)⟩
theorem call_rel {x : xD} {m : mD} {u k a b : Int32} (h : R3 x m) (hd : m 0 23 = 0 ∨ m 0 23 = 1) : DX10_call u k a b x ∧ Dcall u k a b m ∧ (FX10_call u k a b x).1 = (Fcall u k a b m).1 ∧ R3 (FX10_call u k a b x).2 (Fcall u k a b m).2 := by
  have ht : R3 x (ab_up m 0 0 (nI 0)) := h.thr
  have hd' : (ab_up m 0 0 (nI 0)) 0 23 = 0 ∨ (ab_up m 0 0 (nI 0)) 0 23 = 1 := hd
  rw [FX10_call, Fcall, DX10_call, Dcall, isUser_same]
  clear h hd
  generalize ab_up m 0 0 (nI 0) = n at *
  by_cases cu : FisUser u = 0
  · rw [if_pos cu, if_pos cu]
    exact ⟨⟨fun _ => trivial, fun z => absurd cu z⟩, ⟨fun _ => trivial, fun z => absurd cu z⟩, rfl, ht⟩
  · rw [if_neg cu, if_neg cu]
    obtain ⟨v, hv, rfl⟩ := user_of cu
    have hcl : (nI (v + 4)).toNatClampNeg = v + 4 := nI_clamp (by omega)
    have pu := nI_pos (n := v + 4) (by omega)
    have hu : v + 4 < 12 := by omega
    have hlv := live_user ht.1 hu (by omega : 4 ≤ v + 4)
    have c8 : x.1 363 (v + 4) = n 8 (v + 4) := (ht.2.2.2.2.2.2.2.2.2 (v + 4) hu (by omega)).1
    rw [hcl]
    by_cases cl : n 7 (v + 4) = nI 1
    · have clx : ¬ x.1 3 (v + 4) = 0 := fun z => hlv.mp z cl
      rw [if_pos cl, if_neg clx]
      have dh : DX9_hasCall (nI (v + 4)) x := ⟨fun _ => trivial, fun _ => ⟨pu, by rw [hcl]; exact hu, trivial⟩⟩
      by_cases c0 : n 8 (v + 4) = 0
      · have eh : FX9_hasCall (nI (v + 4)) x = 0 := by rw [FX9_hasCall, isUser_same, if_neg cu, hcl, c8, if_pos c0]; exact nI00
        rw [if_pos c0, if_pos eh]
        by_cases k1 : k < nI 1
        · rw [if_pos k1, if_pos k1]
          exact ⟨⟨fun z => absurd z cu, fun _ => ⟨pu, hu, fun z => absurd z clx, fun _ => ⟨dh, fun _ => ⟨fun _ => trivial, fun z => absurd k1 z⟩, fun z => absurd eh z⟩⟩⟩, ⟨fun z => absurd z cu, fun _ => ⟨pu, hu, fun _ => ⟨pu, hu, fun _ => ⟨fun _ => trivial, fun z => absurd k1 z⟩, fun z => absurd c0 z⟩, fun z => absurd cl z⟩⟩, rfl, ht⟩
        · rw [if_neg k1, if_neg k1]
          by_cases k12 : k ≤ nI 12
          · rw [if_pos k12, if_pos k12]
            have step : ∀ t : Nat, t < 12 → (DX1_postLoose (nI (v + 4)) (nI t) k a b x ∧ ((FX1_postLoose (nI (v + 4)) (nI t) k a b x).1 = 0 → DX9_setCall (nI (v + 4)) (nI 1) (FX1_postLoose (nI (v + 4)) (nI t) k a b x).2 ∧ True) ∧ (¬ (FX1_postLoose (nI (v + 4)) (nI t) k a b x).1 = 0 → True)) ∧ Dsend (v + 4) t (nI 1) (Fdrafts k a b n) ∧ (if (FX1_postLoose (nI (v + 4)) (nI t) k a b x).1 = 0 then (nI 0, FX9_setCall (nI (v + 4)) (nI 1) (FX1_postLoose (nI (v + 4)) (nI t) k a b x).2) else (nI 4, (FX1_postLoose (nI (v + 4)) (nI t) k a b x).2)).1 = (if (Fsend (v + 4) t (nI 1) (Fdrafts k a b n)).1 = 0 then (nI 0, ab_up (Fsend (v + 4) t (nI 1) (Fdrafts k a b n)).2 8 (v + 4) (nI 1)) else (nI 4, (Fsend (v + 4) t (nI 1) (Fdrafts k a b n)).2)).1 ∧ R3 (if (FX1_postLoose (nI (v + 4)) (nI t) k a b x).1 = 0 then (nI 0, FX9_setCall (nI (v + 4)) (nI 1) (FX1_postLoose (nI (v + 4)) (nI t) k a b x).2) else (nI 4, (FX1_postLoose (nI (v + 4)) (nI t) k a b x).2)).2 (if (Fsend (v + 4) t (nI 1) (Fdrafts k a b n)).1 = 0 then (nI 0, ab_up (Fsend (v + 4) t (nI 1) (Fdrafts k a b n)).2 8 (v + 4) (nI 1)) else (nI 4, (Fsend (v + 4) t (nI 1) (Fdrafts k a b n)).2)).2 := by
              intro t htt
              obtain ⟨g1, g2, g3, g4⟩ := loose_rel (k := k) (a := a) (b := b) (c := nI 1) ht hu htt hd' (small12 k1 k12) (Or.inr (by omega))
              refine ⟨⟨g1, fun _ => ⟨⟨fun _ => trivial, fun _ => ⟨pu, by rw [hcl]; exact hu, Or.inr (by decide), trivial⟩⟩, trivial⟩, fun _ => trivial⟩, g2, ?_⟩
              rw [g3]
              generalize Fsend (v + 4) t (nI 1) (Fdrafts k a b n) = z at *
              generalize FX1_postLoose (nI (v + 4)) (nI t) k a b x = y at *
              by_cases cz : z.1 = 0
              · rw [if_pos cz, if_pos cz]
                refine ⟨rfl, ?_⟩
                have es : FX9_setCall (nI (v + 4)) (nI 1) y.2 = (ab_up y.2.1 363 (v + 4) (nI 1), y.2.2) := by rw [FX9_setCall, isUser_same, if_neg cu, hcl]
                rw [es]
                exact setCall_rel g4 hu
              · rw [if_neg cz, if_neg cz]
                exact ⟨rfl, g4⟩
            obtain ⟨a1, a2, a3, a4⟩ := step 3 (by decide)
            obtain ⟨b1, b2, b3, b4⟩ := step 2 (by decide)
            refine ⟨⟨fun z => absurd z cu, fun _ => ⟨pu, hu, fun z => absurd z clx, fun _ => ⟨dh, fun _ => ⟨fun z => absurd z k1, fun _ => ⟨fun _ => ⟨fun _ => a1, fun _ => b1⟩, fun z => absurd k12 z⟩⟩, fun z => absurd eh z⟩⟩⟩, ⟨fun z => absurd z cu, fun _ => ⟨pu, hu, fun _ => ⟨pu, hu, fun _ => ⟨fun z => absurd z k1, fun _ => ⟨fun _ => ⟨Ddrafts_ok _ _ _ _, fun _ => ⟨pu, a2, fun _ => ⟨pu, hu, trivial⟩, fun _ => trivial⟩, fun _ => ⟨pu, b2, fun _ => ⟨pu, hu, trivial⟩, fun _ => trivial⟩⟩, fun z => absurd k12 z⟩⟩, fun z => absurd c0 z⟩, fun z => absurd cl z⟩⟩, ?_⟩
            by_cases k8 : nI 8 ≤ k
            · rw [if_pos k8, if_pos k8]
              exact ⟨a3, a4⟩
            · rw [if_neg k8, if_neg k8]
              exact ⟨b3, b4⟩
          · rw [if_neg k12, if_neg k12]
            exact ⟨⟨fun z => absurd z cu, fun _ => ⟨pu, hu, fun z => absurd z clx, fun _ => ⟨dh, fun _ => ⟨fun z => absurd z k1, fun _ => ⟨fun z => absurd z k12, fun _ => trivial⟩⟩, fun z => absurd eh z⟩⟩⟩, ⟨fun z => absurd z cu, fun _ => ⟨pu, hu, fun _ => ⟨pu, hu, fun _ => ⟨fun z => absurd z k1, fun _ => ⟨fun z => absurd z k12, fun _ => trivial⟩⟩, fun z => absurd c0 z⟩, fun z => absurd cl z⟩⟩, rfl, ht⟩
      · have eh : ¬ FX9_hasCall (nI (v + 4)) x = 0 := by rw [FX9_hasCall, isUser_same, if_neg cu, hcl, c8, if_neg c0]; exact nI10
        rw [if_neg c0, if_neg eh]
        exact ⟨⟨fun z => absurd z cu, fun _ => ⟨pu, hu, fun z => absurd z clx, fun _ => ⟨dh, fun z => absurd z eh, fun _ => trivial⟩⟩⟩, ⟨fun z => absurd z cu, fun _ => ⟨pu, hu, fun _ => ⟨pu, hu, fun z => absurd z c0, fun _ => trivial⟩, fun z => absurd cl z⟩⟩, rfl, ht⟩
    · have clx : x.1 3 (v + 4) = 0 := hlv.mpr cl
      rw [if_neg cl, if_pos clx]
      exact ⟨⟨fun z => absurd z cu, fun _ => ⟨pu, hu, fun _ => trivial, fun z => absurd clx z⟩⟩, ⟨fun z => absurd z cu, fun _ => ⟨pu, hu, fun z => absurd z cl, fun _ => trivial⟩⟩, rfl, ht⟩
