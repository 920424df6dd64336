/-! STEPS, UNTIL: class against reference over any number of turns -/
theorem nz_turn {m : mD} {k : Nat} (hk : k < 12) (h48 : m 0 48 = nI k) : Fturn m 0 48 = nI ((k + 1) % 12) := by
  have hc : (nI k).toNatClampNeg = k := nI_clamp (by omega)
  unfold Fturn
  rw [h48, hc]
  have h : (ab_up (ab_up m 0 48 (nI ((k + 1) % 12))) 0 47 ((ab_up m 0 48 (nI ((k + 1) % 12))) 0 47 + nI 1)) 0 48 = nI ((k + 1) % 12) := nz_u ab_up_eq (Or.inr (by decide))
  repeat' (first | with_reducible exact h | with_reducible apply nz_keeper | with_reducible apply nz_driver | with_reducible apply nz_files | with_reducible apply nz_processes | with_reducible apply nz_ofUser | with_reducible apply nz_i)
/-- class and reference agree, S turns at most have been given -/
def JJ (S : Nat) (x : xD) (m : mD) : Prop := R3 x m ∧ Inv S m ∧ ∃ k, k < 12 ∧ m 0 48 = nI k
theorem JJ.mono {S S' : Nat} {x : xD} {m : mD} (h : JJ S x m) (hS : S ≤ S') : JJ S' x m := ⟨h.1, h.2.1.mono hS, h.2.2⟩
theorem JJ.thr {S : Nat} {x : xD} {m : mD} {v : Int32} (h : JJ S x m) : JJ S x (ab_up m 0 0 v) := ⟨h.1.thr, h.2.1.thr, by rw [ab_up_nj (by decide)]; exact h.2.2⟩
theorem JJ.turn {S : Nat} {x : xD} {m : mD} (h : JJ S x m) (hS : S < 1000000000) : DX10_giveTurn x ∧ Dturn m ∧ JJ (S + 1) (FX10_giveTurn x) (Fturn m) := by
  obtain ⟨h1, h2, k, hk, h48⟩ := h
  obtain ⟨a1, a2, a3⟩ := turn_rel h1 hk h48 ((h2.T (k := k)).all hS)
  exact ⟨a1, a2, a3, h2.turn hS h1 hk h48, (k + 1) % 12, Nat.mod_lt _ (by decide), nz_turn hk h48⟩
theorem steps_l {W : Nat} (hW : W ≤ 20000) : ∀ (n a S : Nat) (x : xD) (m : mD), JJ S x m → a ≤ W → W - a < n → S + (W - a) < 1000000000 → DX10_steps_15 n (nI W) a x ∧ Dsteps_20 n (nI W) a m ∧ (FX10_steps_15 n (nI W) a x).1 = (Fsteps_20 n (nI W) a m).1 ∧ JJ (S + (W - a)) (FX10_steps_15 n (nI W) a x).2 (Fsteps_20 n (nI W) a m).2 := by
  intro n
  induction n with
  | zero => intro a S x m _ _ h; omega
  | succ n ih =>
    intro a S x m h ha hn hS
    rw [DX10_steps_15, Dsteps_20, FX10_steps_15, Fsteps_20]
    by_cases c : nI W ≤ nI a
    · have hle : W ≤ a := (nI_leI (by omega) (by omega)).mp c
      rw [if_pos c, if_pos c]
      exact ⟨⟨fun _ => trivial, fun z => absurd c z⟩, ⟨fun _ => trivial, fun z => absurd c z⟩, h.1.2.2.1.1, h.mono (by omega)⟩
    · have hlt : a < W := by
        apply Classical.byContradiction
        intro z
        exact c (nI_le (by omega) (by omega))
      rw [if_neg c, if_neg c]
      obtain ⟨t1, t2, t3⟩ := h.turn (by omega)
      obtain ⟨g1, g2, g3, g4⟩ := ih (a + 1) (S + 1) _ _ t3 (by omega) (by omega) (by omega)
      exact ⟨⟨fun z => absurd z c, fun _ => ⟨t1, g1⟩⟩, ⟨fun z => absurd z c, fun _ => ⟨t2, g2⟩⟩, g3, g4.mono (by omega)⟩
theorem steps_rel {S : Nat} {x : xD} {m : mD} {w : Int32} (h : JJ S x m) (hS : S + 20000 < 1000000000) : DX10_steps w x ∧ Dsteps w m ∧ (FX10_steps w x).1 = (Fsteps w m).1 ∧ JJ (S + 20000) (FX10_steps w x).2 (Fsteps w m).2 := by
  have ht := h.thr (v := nI 0)
  rw [DX10_steps, Dsteps, FX10_steps, Fsteps]
  try dsimp only
  generalize ab_up m 0 0 (nI 0) = n at ht ⊢
  by_cases c1 : w < 0
  · rw [if_pos c1, if_pos c1]
    exact ⟨⟨fun _ => trivial, fun z => absurd c1 z⟩, ⟨fun _ => trivial, fun z => absurd c1 z⟩, rfl, ht.mono (by omega)⟩
  · rw [if_neg c1, if_neg c1]
    by_cases c2 : w ≤ nI 20000
    · rw [if_pos c2, if_pos c2]
      obtain ⟨W, hW, rfl⟩ := nI_of c1
      have hW2 : W ≤ 20000 := (nI_leI (by omega) (by decide)).mp c2
      obtain ⟨g1, g2, g3, g4⟩ := steps_l hW2 20001 0 S x n ht (by omega) (by omega) (by omega)
      exact ⟨⟨fun z => absurd z c1, fun _ => ⟨fun _ => g1, fun z => absurd c2 z⟩⟩, ⟨fun z => absurd z c1, fun _ => ⟨fun _ => g2, fun z => absurd c2 z⟩⟩, g3, g4.mono (by omega)⟩
    · rw [if_neg c2, if_neg c2]
      exact ⟨⟨fun z => absurd z c1, fun _ => ⟨fun z => absurd z c2, fun _ => trivial⟩⟩, ⟨fun z => absurd z c1, fun _ => ⟨fun z => absurd z c2, fun _ => trivial⟩⟩, rfl, ht.mono (by omega)⟩
theorem hasCall_rel {x : xD} {m : mD} {v : Nat} (h : R3 x m) (hv : v < 8) : DX9_hasCall (nI (v + 4)) x ∧ (FX9_hasCall (nI (v + 4)) x = 0 ↔ m 8 (v + 4) = 0) := by
  have hc : (nI (v + 4)).toNatClampNeg = v + 4 := nI_clamp (by omega)
  have hu : ¬ FX10_isUser (nI (v + 4)) = 0 := fun z => by have := (isUser_z (v + 4) (by omega)).mp z; omega
  obtain ⟨u1, -, -⟩ : x.1 363 (v + 4) = m 8 (v + 4) ∧ x.1 364 (v + 4) = m 9 (v + 4) ∧ x.1 365 (v + 4) = m 10 (v + 4) := h.2.2.2.2.2.2.2.2.2 (v + 4) (by omega) (by omega)
  rw [DX9_hasCall, FX9_hasCall, hc, if_neg hu, u1]
  refine ⟨⟨fun _ => trivial, fun _ => ⟨nI_pos (by omega), by omega, trivial⟩⟩, ?_⟩
  by_cases c : m 8 (v + 4) = 0
  · rw [if_pos c]; exact ⟨fun _ => c, fun _ => nI00⟩
  · rw [if_neg c]; exact ⟨fun z => absurd z nI10, fun z => absurd z c⟩
theorem until_l {W v : Nat} (hW : W ≤ 20000) (hv : v < 8) : ∀ (n a S : Nat) (x : xD) (m : mD), JJ S x m → a ≤ W → W - a < n → S + (W - a) < 1000000000 → DX10_until_22 n (nI (v + 4)) (nI W) a x ∧ Duntil_27 n (nI (v + 4)) (nI W) a m ∧ (FX10_until_22 n (nI (v + 4)) (nI W) a x).1 = (Funtil_27 n (nI (v + 4)) (nI W) a m).1 ∧ JJ (S + (W - a)) (FX10_until_22 n (nI (v + 4)) (nI W) a x).2 (Funtil_27 n (nI (v + 4)) (nI W) a m).2 := by
  have hc : (nI (v + 4)).toNatClampNeg = v + 4 := nI_clamp (by omega)
  intro n
  induction n with
  | zero => intro a S x m _ _ h; omega
  | succ n ih =>
    intro a S x m h ha hn hS
    obtain ⟨d1, d2⟩ := hasCall_rel h.1 hv
    rw [DX10_until_22, Duntil_27, FX10_until_22, Funtil_27]
    by_cases c : nI W ≤ nI a
    · rw [if_pos c, if_pos c]
      exact ⟨⟨fun _ => trivial, fun z => absurd c z⟩, ⟨fun _ => trivial, fun z => absurd c z⟩, rfl, h.mono (by omega)⟩
    · have hlt : a < W := by
        apply Classical.byContradiction
        intro z
        exact c (nI_le (by omega) (by omega))
      rw [if_neg c, if_neg c, hc]
      by_cases c2 : m 8 (v + 4) = 0
      · have c3 := d2.mpr c2
        rw [if_pos c2, if_pos c3]
        exact ⟨⟨fun z => absurd z c, fun _ => ⟨d1, fun _ => trivial, fun z => absurd c3 z⟩⟩, ⟨fun z => absurd z c, fun _ => ⟨nI_pos (by omega), by omega, fun _ => trivial, fun z => absurd c2 z⟩⟩, rfl, h.mono (by omega)⟩
      · have c3 : ¬ FX9_hasCall (nI (v + 4)) x = 0 := fun z => c2 (d2.mp z)
        rw [if_neg c2, if_neg c3]
        obtain ⟨t1, t2, t3⟩ := h.turn (by omega)
        obtain ⟨g1, g2, g3, g4⟩ := ih (a + 1) (S + 1) _ _ t3 (by omega) (by omega) (by omega)
        exact ⟨⟨fun z => absurd z c, fun _ => ⟨d1, fun z => absurd z c3, fun _ => ⟨t1, g1⟩⟩⟩, ⟨fun z => absurd z c, fun _ => ⟨nI_pos (by omega), by omega, fun z => absurd z c2, fun _ => ⟨t2, g2⟩⟩⟩, g3, g4.mono (by omega)⟩
theorem until_rel {S : Nat} {x : xD} {m : mD} {u w : Int32} (h : JJ S x m) (hS : S + 20000 < 1000000000) : DX10_until u w x ∧ Duntil u w m ∧ (FX10_until u w x).1 = (Funtil u w m).1 ∧ JJ (S + 20000) (FX10_until u w x).2 (Funtil u w m).2 := by
  have ht := h.thr (v := nI 0)
  rw [DX10_until, Duntil, FX10_until, Funtil, isUser_same]
  try dsimp only
  generalize ab_up m 0 0 (nI 0) = n at ht ⊢
  by_cases c0 : FisUser u = 0
  · rw [if_pos c0, if_pos c0]
    exact ⟨⟨fun _ => trivial, fun z => absurd c0 z⟩, ⟨fun _ => trivial, fun z => absurd c0 z⟩, rfl, ht.mono (by omega)⟩
  · rw [if_neg c0, if_neg c0]
    by_cases c1 : w < 0
    · rw [if_pos c1, if_pos c1]
      exact ⟨⟨fun z => absurd z c0, fun _ => ⟨fun _ => trivial, fun z => absurd c1 z⟩⟩, ⟨fun z => absurd z c0, fun _ => ⟨fun _ => trivial, fun z => absurd c1 z⟩⟩, rfl, ht.mono (by omega)⟩
    · rw [if_neg c1, if_neg c1]
      by_cases c2 : w ≤ nI 20000
      · rw [if_pos c2, if_pos c2]
        obtain ⟨W, hW, rfl⟩ := nI_of c1
        obtain ⟨v, hv, rfl⟩ := user_of c0
        have hW2 : W ≤ 20000 := (nI_leI (by omega) (by decide)).mp c2
        obtain ⟨g1, g2, g3, g4⟩ := until_l hW2 hv 20001 0 S x n ht (by omega) (by omega) (by omega)
        exact ⟨⟨fun z => absurd z c0, fun _ => ⟨fun z => absurd z c1, fun _ => ⟨fun _ => g1, fun z => absurd c2 z⟩⟩⟩, ⟨fun z => absurd z c0, fun _ => ⟨fun z => absurd z c1, fun _ => ⟨fun _ => g2, fun z => absurd c2 z⟩⟩⟩, g3, g4.mono (by omega)⟩
      · rw [if_neg c2, if_neg c2]
        exact ⟨⟨fun z => absurd z c0, fun _ => ⟨fun z => absurd z c1, fun _ => ⟨fun z => absurd z c2, fun _ => trivial⟩⟩⟩, ⟨fun z => absurd z c0, fun _ => ⟨fun z => absurd z c1, fun _ => ⟨fun z => absurd z c2, fun _ => trivial⟩⟩⟩, rfl, ht.mono (by omega)⟩
