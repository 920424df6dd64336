/-! user of the face, where it answers -/
theorem small7 {w : Int32} (h1 : ¬ w < 0) (h2 : ¬ nI 6 < w) : w = 0 ∨ w = 1 ∨ w = 2 ∨ w = 3 ∨ w = 4 ∨ w = 5 ∨ w = 6 := by
  have h2 : w ≤ nI 6 := Int32.not_lt.mp h2
  rw [ab_nat h1] at h2 ⊢
  have h3 := (nI_leI (Int32.toNatClampNeg_lt w) (by decide)).mp h2
  generalize w.toNatClampNeg = n at h3
  have : n = 0 ∨ n = 1 ∨ n = 2 ∨ n = 3 ∨ n = 4 ∨ n = 5 ∨ n = 6 := by omega
  rcases this with rfl | rfl | rfl | rfl | rfl | rfl | rfl <;> decide
section UO
variable {u a : Int32} {x : xD} {m : mD}
theorem xu_0 (c : ¬ FX10_isUser u = 0) : FX10_user u 0 x = if x.1 3 u.toNatClampNeg = 0 then (if FX8_hasEnded u x = 0 then (nI 0, x) else (nI 2, x)) else (nI 1, x) := by rw [FX10_user, if_neg c, if_pos rfl]
theorem xu_1 (c : ¬ FX10_isUser u = 0) : FX10_user u 1 x = if FX9_hasCall u x = 0 then (nI 0, x) else (nI 1, x) := by rw [FX10_user, if_neg c, if_neg (by decide), if_pos rfl]
theorem xu_2 (c : ¬ FX10_isUser u = 0) : FX10_user u 2 x = (x.1 364 u.toNatClampNeg, x) := by rw [FX10_user, if_neg c, if_neg (by decide), if_neg (by decide), if_pos rfl]
theorem xu_3 (c : ¬ FX10_isUser u = 0) : FX10_user u 3 x = (x.1 365 u.toNatClampNeg, x) := by rw [FX10_user, if_neg c, if_neg (by decide), if_neg (by decide), if_neg (by decide), if_pos rfl]
theorem xu_4 (c : ¬ FX10_isUser u = 0) : FX10_user u 4 x = (FX8_parentOf u x, x) := by rw [FX10_user, if_neg c, if_neg (by decide), if_neg (by decide), if_neg (by decide), if_neg (by decide), if_pos rfl]
theorem xu_5 (c : ¬ FX10_isUser u = 0) : FX10_user u 5 x = (FX8_codeOf u x, x) := by rw [FX10_user, if_neg c, if_neg (by decide), if_neg (by decide), if_neg (by decide), if_neg (by decide), if_neg (by decide), if_pos rfl]
theorem xu_6 (c : ¬ FX10_isUser u = 0) : FX10_user u 6 x = (FX7_howMany u x, x) := by rw [FX10_user, if_neg c, if_neg (by decide), if_neg (by decide), if_neg (by decide), if_neg (by decide), if_neg (by decide), if_neg (by decide), if_pos rfl]
theorem mu_0 : uEnd u 0 a m = (m 7 u.toNatClampNeg, m) := by rw [uEnd, Fuser_40, if_pos (Nat.le_refl 4), if_pos rfl]
theorem mu_1 : uEnd u 1 a m = if m 8 u.toNatClampNeg = 0 then (nI 0, m) else (nI 1, m) := by rw [uEnd, Fuser_40, if_pos (Nat.le_refl 4), if_neg (by decide), if_pos rfl]
theorem mu_2 : uEnd u 2 a m = (m 9 u.toNatClampNeg, m) := by rw [uEnd, Fuser_40, if_pos (Nat.le_refl 4), if_neg (by decide), if_neg (by decide), if_pos rfl]
theorem mu_3 : uEnd u 3 a m = (m 10 u.toNatClampNeg, m) := by rw [uEnd, Fuser_40, if_pos (Nat.le_refl 4), if_neg (by decide), if_neg (by decide), if_neg (by decide), if_pos rfl]
theorem mu_4 : uEnd u 4 a m = (m 11 u.toNatClampNeg, m) := by rw [uEnd, Fuser_40, if_pos (Nat.le_refl 4), if_neg (by decide), if_neg (by decide), if_neg (by decide), if_neg (by decide), if_pos rfl]
theorem mu_5 : uEnd u 5 a m = (m 12 u.toNatClampNeg, m) := by rw [uEnd, Fuser_40, if_pos (Nat.le_refl 4), if_neg (by decide), if_neg (by decide), if_neg (by decide), if_neg (by decide), if_neg (by decide), if_pos rfl]
theorem mu_6 : uEnd u 6 a m = (a, m) := by rw [uEnd, Fuser_40, if_pos (Nat.le_refl 4), if_neg (by decide), if_neg (by decide), if_neg (by decide), if_neg (by decide), if_neg (by decide), if_neg (by decide)]
end UO
theorem user_FX {x : xD} {n : mD} {v : Nat} {w : Int32} (ht : R3 x n) (hs : iSta n) (hv : v < 8) (hw : w = 0 ∨ w = 1 ∨ w = 2 ∨ w = 3 ∨ w = 4 ∨ w = 5 ∨ w = 6) : (FX10_user (nI (v + 4)) w x).2 = x ∧ (FX10_user (nI (v + 4)) w x).1 = (uEnd (nI (v + 4)) w (FX7_howMany (nI (v + 4)) x) n).1 := by
  have hcl : (nI (v + 4)).toNatClampNeg = v + 4 := nI_clamp (by omega)
  have hu : v + 4 < 12 := by omega
  have c1 : ¬ FX10_isUser (nI (v + 4)) = 0 := fun z => by have := (isUser_z (v + 4) hu).mp z; omega
  have hlv := live_user ht.1 hu (by omega : 4 ≤ v + 4)
  obtain ⟨u1, u2, u3⟩ : x.1 363 (v + 4) = n 8 (v + 4) ∧ x.1 364 (v + 4) = n 9 (v + 4) ∧ x.1 365 (v + 4) = n 10 (v + 4) := ht.2.2.2.2.2.2.2.2.2 (v + 4) hu (by omega)
  obtain ⟨q1, q2, q3, -⟩ : x.1 358 (v + 4) = n 11 (v + 4) ∧ x.1 359 (v + 4) = n 12 (v + 4) ∧ x.1 360 (v + 4) = (if n 7 (v + 4) = 2 then 1 else 0) ∧ x.1 361 (v + 4) = n 13 (v + 4) := ht.2.2.2.2.2.2.2.2.1.1 (v + 4) hu (by omega)
  obtain ⟨-, d2⟩ := hasCall_rel ht hv
  rcases hw with rfl | rfl | rfl | rfl | rfl | rfl | rfl
  · rw [xu_0 c1, mu_0, hcl, FX8_hasEnded, if_neg c1, hcl, q3]
    rcases hs (v + 4) hu (by omega) with e | e | e
    · rw [if_pos (hlv.mpr (by rw [e]; decide)), e, if_pos (by decide)]; exact ⟨rfl, (by decide : nI 0 = 0)⟩
    · rw [if_neg (fun z => hlv.mp z (by rw [e]; decide)), e]; exact ⟨rfl, (by decide : nI 1 = 1)⟩
    · rw [if_pos (hlv.mpr (by rw [e]; decide)), e, if_neg (by decide)]; exact ⟨rfl, (by decide : nI 2 = 2)⟩
  · rw [xu_1 c1, mu_1, hcl]
    by_cases c : n 8 (v + 4) = 0
    · rw [if_pos c, if_pos (d2.mpr c)]; exact ⟨rfl, rfl⟩
    · rw [if_neg c, if_neg (fun z => c (d2.mp z))]; exact ⟨rfl, rfl⟩
  · rw [xu_2 c1, mu_2, hcl, u2]; exact ⟨rfl, rfl⟩
  · rw [xu_3 c1, mu_3, hcl, u3]; exact ⟨rfl, rfl⟩
  · rw [xu_4 c1, mu_4, hcl, FX8_parentOf, if_neg c1, hcl, q1]; exact ⟨rfl, rfl⟩
  · rw [xu_5 c1, mu_5, hcl, FX8_codeOf, if_neg c1, hcl, q2]; exact ⟨rfl, rfl⟩
  · rw [xu_6 c1, mu_6]; exact ⟨rfl, rfl⟩
theorem user_DX {x : xD} {v : Nat} {w : Int32} (hv : v < 8) (hw : w = 0 ∨ w = 1 ∨ w = 2 ∨ w = 3 ∨ w = 4 ∨ w = 5 ∨ w = 6) (g3 : DX7_howMany (nI (v + 4)) x) : DX10_user (nI (v + 4)) w x := by
  have hcl : (nI (v + 4)).toNatClampNeg = v + 4 := nI_clamp (by omega)
  have hu : v + 4 < 12 := by omega
  have pu : ¬ nI (v + 4) < 0 := nI_pos (by omega)
  have c1 : ¬ FX10_isUser (nI (v + 4)) = 0 := fun z => by have := (isUser_z (v + 4) hu).mp z; omega
  have hcu : (nI (v + 4)).toNatClampNeg < 12 := by rw [hcl]; exact hu
  have nc : ¬ ∀ c ∈ ([(0, 60), (1, 93), (2, 110), (3, 120), (4, 130), (5, 139), (6, 148)] : List (Int32 × Nat)), ¬ w = c.1 := fun z => by
    rcases hw with e | e | e | e | e | e | e
    · exact z (0, 60) (by decide) e
    · exact z (1, 93) (by decide) e
    · exact z (2, 110) (by decide) e
    · exact z (3, 120) (by decide) e
    · exact z (4, 130) (by decide) e
    · exact z (5, 139) (by decide) e
    · exact z (6, 148) (by decide) e
  have d1 : DX8_hasEnded (nI (v + 4)) x := ⟨fun _ => trivial, fun _ => ⟨pu, hcu, trivial⟩⟩
  have d2 : DX9_hasCall (nI (v + 4)) x := ⟨fun _ => trivial, fun _ => ⟨pu, hcu, trivial⟩⟩
  have d3 : DX8_parentOf (nI (v + 4)) x := ⟨fun _ => trivial, fun _ => ⟨pu, hcu, trivial⟩⟩
  have d4 : DX8_codeOf (nI (v + 4)) x := ⟨fun _ => trivial, fun _ => ⟨pu, hcu, trivial⟩⟩
  unfold DX10_user
  exact ⟨fun z => absurd z c1, fun _ => ⟨fun _ => ⟨pu, hcu, fun _ => ⟨d1, trivial⟩, fun _ => trivial⟩, fun _ => ⟨d2, trivial⟩, fun _ => ⟨pu, hcu, trivial⟩, fun _ => ⟨pu, hcu, trivial⟩, fun _ => ⟨d3, trivial⟩, fun _ => ⟨d4, trivial⟩, fun _ => ⟨g3, trivial⟩, fun z => absurd z nc⟩⟩
theorem Fuser_ok {u w : Int32} {m : mD} (c1 : ¬ FisUser u = 0) (c2 : ¬ w < 0) (c3 : ¬ nI 6 < w) : Fuser u w m = Fuser_40 5 u w (nI 0) 0 (ab_up m 0 0 (nI 0)) ∧ (Duser_40 5 u w (nI 0) 0 (ab_up m 0 0 (nI 0)) → Duser u w m) := by
  have e0 : (ab_up m 0 0 (nI 0)) 0 0 ≤ 0 := by rw [ab_up_eq]; decide
  refine ⟨?_, fun z => ⟨fun q => absurd q c1, fun _ => ⟨fun q => absurd q c2, fun _ => ⟨fun q => absurd q c3, fun _ => ⟨fun _ => z, fun q => absurd e0 q⟩⟩⟩⟩⟩
  rw [Fuser, if_neg c1, if_neg c2, if_neg c3]
  exact if_pos e0
theorem user_ok {x : xD} {m : mD} {u w : Int32} (h : R3 x m) (ho : iOpe m) (hs : iSta m) (hn : ¬ uThrow u w) : DX10_user u w x ∧ Duser u w m ∧ (FX10_user u w x).1 = (Fuser u w m).1 ∧ (FX10_user u w x).2 = x ∧ (Fuser u w m).2 = ab_up m 0 0 (nI 0) := by
  have ht : R3 x (ab_up m 0 0 (nI 0)) := h.thr
  have ho' : iOpe (ab_up m 0 0 (nI 0)) := ho
  have hs' : iSta (ab_up m 0 0 (nI 0)) := hs
  have c1 : ¬ FisUser u = 0 := fun z => hn (Or.inl z)
  have c2 : ¬ w < 0 := fun z => hn (Or.inr (Or.inl z))
  have c3 : ¬ nI 6 < w := fun z => hn (Or.inr (Or.inr z))
  obtain ⟨e1, e2⟩ := Fuser_ok (m := m) c1 c2 c3
  have hw := small7 c2 c3
  rw [e1]
  revert e2
  generalize ab_up m 0 0 (nI 0) = n at *
  intro e2
  obtain ⟨v, hv, rfl⟩ := user_of c1
  obtain ⟨g1, g2, g3⟩ := user_40 (w := w) ht ho' hv 5 5 0 (nI 0) (by decide) (by decide) (by decide)
  obtain ⟨f1, f2⟩ := user_FX ht hs' hv hw
  rw [g1, uEnd_2]
  exact ⟨user_DX hv hw g3, e2 g2, f2, f1, rfl⟩
